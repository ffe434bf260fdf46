/-! rests: the comparing -/
def t_al (P' : Nat → Bool) : Nat → Bool
  | 0 => true
  | n' + 1 => t_al P' n' && P' n'
def t_ok (U' V' : Nat → Int32) (i' j' q' : Nat) : Bool := !decide (U' (4 * i' + j') < U' (4 * q' + j')) && !decide (V' (4 * i' + j') < V' (4 * i' + q'))
def t_rs (U' V' : Nat → Int32) (i' j' : Nat) : Bool := t_al (t_ok U' V' i' j') 4
def t_ct (R' : Nat → Bool) : Nat → Nat
  | 0 => 0
  | n' + 1 => t_ct R' n' + (if R' n' = true then 1 else 0)
def t_rp (U' V' : Nat → Int32) (p' : Nat) : Bool := t_rs U' V' (p' / 4) (p' % 4)
def t_hit (R' : Nat → Bool) (l' : Int32) (p' : Nat) : Bool := R' p' && decide (Int32.ofNat (t_ct R' p') = l')
theorem t_ctL (R' : Nat → Bool) (n' : Nat) : t_ct R' n' ≤ n' := by
  induction n' with
  | zero => exact Nat.le_refl _
  | succ n' ih' => rw [t_ct]; split <;> omega
theorem t_alF {P' : Nat → Bool} {n' m' : Nat} (h' : n' < m') (hp' : P' n' = false) : t_al P' m' = false := by
  induction m' with
  | zero => omega
  | succ m' ih' =>
    rw [t_al]
    by_cases e' : n' = m'
    · subst e'; rw [hp']; simp
    · rw [ih' (by omega)]; rfl
section PG'
variable {X' : p_X} {I' : p_I} {U' V' : Nat → Int32}
theorem s_isRest (hB' : p_B X') {i' j' : Nat} (hi' : i' < 4) (hj' : j' < 4) : F_X2_isRest 67 (Int32.ofNat i') (Int32.ofNat j') (I', X') = some (t_b (t_rs (I' 71) (I' 72) i' j')) := by
  obtain ⟨z', h1', h2'⟩ := p_lp (fun z' => B_X2_isRest_9 67 (Int32.ofNat i') (Int32.ofNat j') (Int32.ofNat i' * 4 + Int32.ofNat j') z' (I', X')) (fun q' z' => z' = Int32.ofNat q' ∧ t_al (t_ok (I' 71) (I' 72) i' j') q' = true)
    (fun z' => (z' = .inl () ∧ t_rs (I' 71) (I' 72) i' j' = false) ∨ (z' = .inr () ∧ t_rs (I' 71) (I' 72) i' j' = true)) 4 (by
      rintro q' z' hq' ⟨rfl, j1'⟩
      have hl8' : (Int32.ofNat q' < 4) = (q' < 4) := p_lt q' 4 (by omega) (by decide)
      have m1' : Int32.ofNat i' * 4 + Int32.ofNat j' = Int32.ofNat (4 * i' + j') := by
        rw [show (4 : Int32) = Int32.ofNat 4 from rfl, ← Int32.ofNat_mul, ← Int32.ofNat_add, Nat.mul_comm]
      have m2' : Int32.ofNat q' * 4 + Int32.ofNat j' = Int32.ofNat (4 * q' + j') := by
        rw [show (4 : Int32) = Int32.ofNat 4 from rfl, ← Int32.ofNat_mul, ← Int32.ofNat_add, Nat.mul_comm]
      have m3' : Int32.ofNat i' * 4 + Int32.ofNat q' = Int32.ofNat (4 * i' + q') := by
        rw [show (4 : Int32) = Int32.ofNat 4 from rfl, ← Int32.ofNat_mul, ← Int32.ofNat_add, Nat.mul_comm]
      unfold B_X2_isRest_9
      by_cases hlt' : q' < 4
      · by_cases c1' : I' 71 (4 * i' + j') < I' 71 (4 * q' + j')
        · right
          simp (disch := omega) only [↓ce_67 hB', rf_67 hB', ↓ce_71 hB', ↓ce_72 hB', ↓nn_40, ↓nn_64, ↓nn_67, ↓nn_69, ↓nn_71, ↓nn_72, ↓nn_73, p_bs, p_rq0, p_rq1, p_rz0, p_rz1, p_us, p_un, p_uj, ↓reduceIte, hl8', hlt', m1', m2', m3', c1']
          exact ⟨_, rfl, .inl ⟨rfl, t_alF hlt' (by simp [t_ok, c1'])⟩⟩
        · by_cases c2' : I' 72 (4 * i' + j') < I' 72 (4 * i' + q')
          · right
            simp (disch := omega) only [↓ce_67 hB', rf_67 hB', ↓ce_71 hB', ↓ce_72 hB', ↓nn_40, ↓nn_64, ↓nn_67, ↓nn_69, ↓nn_71, ↓nn_72, ↓nn_73, p_bs, p_rq0, p_rq1, p_rz0, p_rz1, p_us, p_un, p_uj, ↓reduceIte, hl8', hlt', m1', m2', m3', c1', c2']
            exact ⟨_, rfl, .inl ⟨rfl, t_alF hlt' (by simp [t_ok, c2'])⟩⟩
          · left
            simp (disch := omega) only [↓ce_67 hB', rf_67 hB', ↓ce_71 hB', ↓ce_72 hB', ↓nn_40, ↓nn_64, ↓nn_67, ↓nn_69, ↓nn_71, ↓nn_72, ↓nn_73, p_bs, p_rq0, p_rq1, p_rz0, p_rz1, p_us, p_un, p_uj, ↓reduceIte, hl8', hlt', m1', m2', m3', c1', c2', show Int32.ofNat q' + 1 = Int32.ofNat (q' + 1) from (Int32.ofNat_add q' 1).symm]
            refine ⟨_, rfl, True.intro, rfl, ?_⟩
            rw [t_al, j1']
            simp [t_ok, c1', c2']
      · right
        have hq'' : q' = 4 := by omega
        subst hq''
        simp (disch := omega) only [p_bs, p_rq0, p_rq1, p_rz0, p_rz1, p_us, p_un, p_uj, ↓reduceIte, hl8', Nat.lt_irrefl]
        exact ⟨_, rfl, .inr ⟨rfl, j1'⟩⟩) 4 0 q_fu 0 (by omega) (by unfold q_fu; omega) ⟨rfl, rfl⟩
  unfold F_X2_isRest
  rw [h1']
  rcases h2' with ⟨rfl, h2'⟩ | ⟨rfl, h2'⟩
  · rw [h2']; rfl
  · rw [h2']; rfl
theorem s_isRestP (hB' : p_B X') {p' : Nat} (hp' : p' < 16) : F_X2_isRest 67 (Int32.ofNat (p' / 4)) (Int32.ofNat (p' % 4)) (I', X') = some (t_b (t_rp (I' 71) (I' 72) p')) := s_isRest hB' (by omega) (by omega)
theorem s_restCount (hB' : p_B X') : F_X2_restCount 67 (I', X') = some (Int32.ofNat (t_ct (t_rp (I' 71) (I' 72)) 16)) := by
  obtain ⟨z', h1', rfl⟩ := p_lp (fun z' => B_X2_restCount_4 67 z'.1 z'.2 (I', X')) (fun p' z' => z' = (Int32.ofNat (t_ct (t_rp (I' 71) (I' 72)) p'), Int32.ofNat p'))
    (fun z' => z' = Int32.ofNat (t_ct (t_rp (I' 71) (I' 72)) 16)) 16 (by
      rintro p' z' hp' rfl
      have hl8' : (Int32.ofNat p' < 16) = (p' < 16) := p_lt p' 16 (by omega) (by decide)
      unfold B_X2_restCount_4 J_X2_restCount_26_4 q_dvi q_rmi
      by_cases hlt' : p' < 16
      · left
        obtain ⟨d1', d2', -⟩ := t_dv4 ⟨p', by omega⟩
        simp only at d1' d2'
        rw [d1'] at d2'
        have hr' := s_isRestP (I' := I') hB' hlt'
        simp only [show ((4 : Int32) = 0) = False from by decide, ↓reduceIte, d1', d2']
        cases hb' : t_rp (I' 71) (I' 72) p'
        · simp (disch := omega) only [↓ce_67 hB', rf_67 hB', ↓nn_40, ↓nn_64, ↓nn_67, ↓nn_69, ↓nn_71, ↓nn_72, ↓nn_73, p_bs, p_rq0, p_rq1, p_rz0, p_rz1, p_us, p_un, p_uj, ↓reduceIte, hl8', hlt', hr', hb', t_b0, p_ar]
          exact ⟨_, rfl, True.intro, by rw [t_ct, hb']; rfl⟩
        · simp (disch := omega) only [↓ce_67 hB', rf_67 hB', ↓nn_40, ↓nn_64, ↓nn_67, ↓nn_69, ↓nn_71, ↓nn_72, ↓nn_73, p_bs, p_rq0, p_rq1, p_rz0, p_rz1, p_us, p_un, p_uj, ↓reduceIte, hl8', hlt', hr', hb', t_b0, Bool.true_eq_false, p_ar]
          exact ⟨_, rfl, True.intro, by rw [t_ct, hb']; rfl⟩
      · right
        have hp'' : p' = 16 := by omega
        subst hp''
        simp (disch := omega) only [p_bs, p_rq0, p_rq1, p_rz0, p_rz1, p_us, p_un, p_uj, ↓reduceIte, hl8', Nat.lt_irrefl]
        exact ⟨_, rfl, rfl⟩) 16 0 q_fu (0, 0) (by omega) (by unfold q_fu; omega) rfl
  unfold F_X2_restCount
  rw [h1']
  rfl
def t_rat (o' : Option Nat) : Int32 := match o' with
  | some p' => Int32.ofNat (10 * (p' / 4) + p' % 4)
  | none => -1
theorem s_restAt (hB' : p_B X') (l' : Int32) : F_X2_restAt 67 l' (I', X') = some (t_rat (t_fi (t_hit (t_rp (I' 71) (I' 72)) l') 16 0)) := by
  obtain ⟨z', h1', h2'⟩ := p_lp (fun z' => B_X2_restAt_4 67 l' z'.1 z'.2 (I', X')) (fun p' z' => z' = (Int32.ofNat (t_ct (t_rp (I' 71) (I' 72)) p'), Int32.ofNat p') ∧ t_fi (t_hit (t_rp (I' 71) (I' 72)) l') (16 - p') p' = t_fi (t_hit (t_rp (I' 71) (I' 72)) l') 16 0)
    (fun z' => (∃ p', z' = .inl (Int32.ofNat (p' / 4), Int32.ofNat (p' % 4)) ∧ t_fi (t_hit (t_rp (I' 71) (I' 72)) l') 16 0 = some p') ∨ (z' = .inr () ∧ t_fi (t_hit (t_rp (I' 71) (I' 72)) l') 16 0 = none)) 16 (by
      rintro p' z' hp' ⟨rfl, j1'⟩
      have hl8' : (Int32.ofNat p' < 16) = (p' < 16) := p_lt p' 16 (by omega) (by decide)
      unfold B_X2_restAt_4 J_X2_restAt_48_4 q_dvi q_rmi
      by_cases hlt' : p' < 16
      · obtain ⟨d1', d2', -⟩ := t_dv4 ⟨p', by omega⟩
        simp only at d1' d2'
        rw [d1'] at d2'
        have hr' := s_isRestP (I' := I') hB' hlt'
        rw [show 16 - p' = (16 - (p' + 1)) + 1 by omega, t_fi] at j1'
        simp only [show ((4 : Int32) = 0) = False from by decide, ↓reduceIte, d1', d2']
        cases hb' : t_rp (I' 71) (I' 72) p'
        · left
          have hh' : t_hit (t_rp (I' 71) (I' 72)) l' p' = false := by simp [t_hit, hb']
          rw [hh'] at j1'
          simp (disch := omega) only [↓ce_67 hB', rf_67 hB', ↓nn_40, ↓nn_64, ↓nn_67, ↓nn_69, ↓nn_71, ↓nn_72, ↓nn_73, p_bs, p_rq0, p_rq1, p_rz0, p_rz1, p_us, p_un, p_uj, ↓reduceIte, hl8', hlt', hr', hb', t_b0, p_ar]
          exact ⟨_, rfl, True.intro, by rw [t_ct, hb']; rfl, j1'⟩
        · by_cases he' : Int32.ofNat (t_ct (t_rp (I' 71) (I' 72)) p') = l'
          · right
            have hh' : t_hit (t_rp (I' 71) (I' 72)) l' p' = true := by simp [t_hit, hb', he']
            rw [hh'] at j1'
            simp (disch := omega) only [↓ce_67 hB', rf_67 hB', ↓nn_40, ↓nn_64, ↓nn_67, ↓nn_69, ↓nn_71, ↓nn_72, ↓nn_73, p_bs, p_rq0, p_rq1, p_rz0, p_rz1, p_us, p_un, p_uj, ↓reduceIte, hl8', hlt', hr', hb', t_b0, Bool.true_eq_false, he']
            exact ⟨_, rfl, .inl ⟨p', rfl, j1'.symm⟩⟩
          · left
            have hh' : t_hit (t_rp (I' 71) (I' 72)) l' p' = false := by simp [t_hit, he']
            rw [hh'] at j1'
            simp (disch := omega) only [↓ce_67 hB', rf_67 hB', ↓nn_40, ↓nn_64, ↓nn_67, ↓nn_69, ↓nn_71, ↓nn_72, ↓nn_73, p_bs, p_rq0, p_rq1, p_rz0, p_rz1, p_us, p_un, p_uj, ↓reduceIte, hl8', hlt', hr', hb', t_b0, Bool.true_eq_false, he', p_ar]
            exact ⟨_, rfl, True.intro, by rw [t_ct, hb']; rfl, j1'⟩
      · right
        have hp'' : p' = 16 := by omega
        subst hp''
        simp (disch := omega) only [p_bs, p_rq0, p_rq1, p_rz0, p_rz1, p_us, p_un, p_uj, ↓reduceIte, hl8', Nat.lt_irrefl]
        exact ⟨_, rfl, .inr ⟨rfl, j1'.symm⟩⟩) 16 0 q_fu (0, 0) (by omega) (by unfold q_fu; omega) ⟨rfl, rfl⟩
  unfold F_X2_restAt
  rw [h1']
  rcases h2' with ⟨p', rfl, h2'⟩ | ⟨rfl, h2'⟩
  · rw [h2']
    show some (10 * Int32.ofNat (p' / 4) + Int32.ofNat (p' % 4)) = some (Int32.ofNat (10 * (p' / 4) + p' % 4))
    rw [Int32.ofNat_add, Int32.ofNat_mul]
    rfl
  · rw [h2']; rfl
end PG'
