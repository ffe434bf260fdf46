/-! rests: the reference's comparing -/
section PG'
variable {X' : p_X} {I' : p_I}
def t_e2 (w' : Nat → Int32) (p' : Nat) : Int32 := w' (2 * p')
def t_o2 (w' : Nat → Int32) (p' : Nat) : Int32 := w' (2 * p' + 1)
theorem s_r92 (hB' : p_B X') (l' c' : Int32) {i' j' : Nat} (hi' : i' < 4) (hj' : j' < 4) : q_lp (fun z' => B_X12_rests_92 87 l' c' (Int32.ofNat i') (Int32.ofNat j') z'.1 z'.2 (I', X')) q_fu ((1 : Int32), (0 : Int32)) = some (t_b (t_rs (t_e2 (I' 105)) (t_o2 (I' 105)) i' j')) := by
  obtain ⟨z', h1', rfl⟩ := p_lp (fun z' => B_X12_rests_92 87 l' c' (Int32.ofNat i') (Int32.ofNat j') z'.1 z'.2 (I', X')) (fun q' z' => z' = (t_b (t_al (t_ok (t_e2 (I' 105)) (t_o2 (I' 105)) i' j') q'), Int32.ofNat q'))
    (fun z' => z' = t_b (t_rs (t_e2 (I' 105)) (t_o2 (I' 105)) i' j')) 4 (by
      rintro q' z' hq' rfl
      have hl8' : (Int32.ofNat q' < 4) = (q' < 4) := p_lt q' 4 (by omega) (by decide)
      unfold B_X12_rests_92 J_X12_rests_177_92 J_X12_rests_178_92
      by_cases hlt' : q' < 4
      · left
        cases ha' : t_al (t_ok (t_e2 (I' 105)) (t_o2 (I' 105)) i' j') q'
        · simp (disch := omega) only [p_bs, p_rq0, p_rq1, p_rz0, p_rz1, p_us, p_un, p_uj, ↓reduceIte, hl8', hlt', t_b0, p_ar]
          exact ⟨_, rfl, True.intro, by rw [t_al, ha']; rfl⟩
        · have u1' : t_e2 (I' 105) (4 * i' + j') = I' 105 (8 * i' + 2 * j') := by unfold t_e2; congr 1; omega
          have u2' : t_e2 (I' 105) (4 * q' + j') = I' 105 (8 * q' + 2 * j') := by unfold t_e2; congr 1; omega
          have u3' : t_o2 (I' 105) (4 * i' + j') = I' 105 (8 * i' + 2 * j' + 1) := by unfold t_o2; congr 1; omega
          have u4' : t_o2 (I' 105) (4 * i' + q') = I' 105 (8 * i' + 2 * q' + 1) := by unfold t_o2; congr 1; omega
          by_cases c1' : I' 105 (8 * i' + 2 * j') < I' 105 (8 * q' + 2 * j')
          · simp (disch := omega) only [↓ce_87 hB', rf_87 hB', ↓ce_105 hB', ↓nn_31, ↓nn_33, ↓nn_89, ↓nn_90, ↓nn_91, ↓nn_92, ↓nn_93, ↓nn_94, ↓nn_95, ↓nn_96, ↓nn_97, ↓nn_98, ↓nn_99, ↓nn_100, ↓nn_101, ↓nn_102, ↓nn_103, ↓nn_104, ↓nn_105, ↓nn_106, ↓nn_107, ↓nn_108, p_bs, p_rq0, p_rq1, p_rz0, p_rz1, p_us, p_un, p_uj, ↓reduceIte, hl8', hlt', t_b0, Bool.true_eq_false, p_ar, c1']
            exact ⟨_, rfl, True.intro, by rw [t_al, ha']; unfold t_ok; rw [u1', u2']; simp [c1']; rfl⟩
          · by_cases c2' : I' 105 (8 * i' + 2 * j' + 1) < I' 105 (8 * i' + 2 * q' + 1)
            · simp (disch := omega) only [↓ce_87 hB', rf_87 hB', ↓ce_105 hB', ↓nn_31, ↓nn_33, ↓nn_89, ↓nn_90, ↓nn_91, ↓nn_92, ↓nn_93, ↓nn_94, ↓nn_95, ↓nn_96, ↓nn_97, ↓nn_98, ↓nn_99, ↓nn_100, ↓nn_101, ↓nn_102, ↓nn_103, ↓nn_104, ↓nn_105, ↓nn_106, ↓nn_107, ↓nn_108, p_bs, p_rq0, p_rq1, p_rz0, p_rz1, p_us, p_un, p_uj, ↓reduceIte, hl8', hlt', t_b0, Bool.true_eq_false, p_ar, c1', c2']
              exact ⟨_, rfl, True.intro, by rw [t_al, ha']; unfold t_ok; rw [u1', u2', u3', u4']; simp [c1', c2']; rfl⟩
            · simp (disch := omega) only [↓ce_87 hB', rf_87 hB', ↓ce_105 hB', ↓nn_31, ↓nn_33, ↓nn_89, ↓nn_90, ↓nn_91, ↓nn_92, ↓nn_93, ↓nn_94, ↓nn_95, ↓nn_96, ↓nn_97, ↓nn_98, ↓nn_99, ↓nn_100, ↓nn_101, ↓nn_102, ↓nn_103, ↓nn_104, ↓nn_105, ↓nn_106, ↓nn_107, ↓nn_108, p_bs, p_rq0, p_rq1, p_rz0, p_rz1, p_us, p_un, p_uj, ↓reduceIte, hl8', hlt', t_b0, Bool.true_eq_false, p_ar, c1', c2']
              exact ⟨_, rfl, True.intro, by rw [t_al, ha']; unfold t_ok; rw [u1', u2', u3', u4']; simp [c1', c2']; rfl⟩
      · right
        have hq'' : q' = 4 := by omega
        subst hq''
        simp (disch := omega) only [p_bs, p_rq0, p_rq1, p_rz0, p_rz1, p_us, p_un, p_uj, ↓reduceIte, hl8', Nat.lt_irrefl]
        exact ⟨_, rfl, rfl⟩) 4 0 q_fu (1, 0) (by omega) (by unfold q_fu; omega) rfl
  exact h1'
theorem s_r80 (hB' : p_B X') (l' : Int32) {R' : Nat → Bool} (hR' : R' = t_rp (t_e2 (I' 105)) (t_o2 (I' 105))) {i' : Nat} (hi' : i' < 4) (F' : Option Nat) (hF' : t_fi (t_hit R' l') (16 - 4 * i') (4 * i') = F') : ∃ z', q_lp (fun z' => B_X12_rests_80 87 l' (Int32.ofNat i') z'.1 z'.2 (I', X')) q_fu (Int32.ofNat (t_ct R' (4 * i')), (0 : Int32)) = some z' ∧ ((∃ j', j' < 4 ∧ z' = .inl (Int32.ofNat j') ∧ F' = some (4 * i' + j')) ∨ (z' = .inr (Int32.ofNat (t_ct R' (4 * (i' + 1)))) ∧ t_fi (t_hit R' l') (16 - 4 * (i' + 1)) (4 * (i' + 1)) = F')) := by
  exact p_lp (fun z' => B_X12_rests_80 87 l' (Int32.ofNat i') z'.1 z'.2 (I', X')) (fun j' z' => z' = (Int32.ofNat (t_ct R' (4 * i' + j')), Int32.ofNat j') ∧ t_fi (t_hit R' l') (16 - (4 * i' + j')) (4 * i' + j') = F')
    (fun z' => (∃ j', j' < 4 ∧ z' = .inl (Int32.ofNat j') ∧ F' = some (4 * i' + j')) ∨ (z' = .inr (Int32.ofNat (t_ct R' (4 * (i' + 1)))) ∧ t_fi (t_hit R' l') (16 - 4 * (i' + 1)) (4 * (i' + 1)) = F')) 4 (by
      rintro j' z' hj' ⟨rfl, j1'⟩
      have hl8' : (Int32.ofNat j' < 4) = (j' < 4) := p_lt j' 4 (by omega) (by decide)
      unfold B_X12_rests_80 J_X12_rests_212_80
      by_cases hlt' : j' < 4
      · have hr' := s_r92 (I' := I') hB' l' (Int32.ofNat (t_ct R' (4 * i' + j'))) hi' hlt'
        have hRp' : t_rs (t_e2 (I' 105)) (t_o2 (I' 105)) i' j' = R' (4 * i' + j') := by
          rw [hR']
          unfold t_rp
          rw [show (4 * i' + j') / 4 = i' by omega, show (4 * i' + j') % 4 = j' by omega]
        rw [hRp'] at hr'
        rw [show 16 - (4 * i' + j') = (16 - (4 * i' + (j' + 1))) + 1 by omega, t_fi] at j1'
        cases hb' : R' (4 * i' + j')
        · left
          have hh' : t_hit R' l' (4 * i' + j') = false := by simp [t_hit, hb']
          rw [hh'] at j1'
          simp (disch := omega) only [p_bs, p_rq0, p_rq1, p_rz0, p_rz1, p_us, p_un, p_uj, ↓reduceIte, hl8', hlt', hr', hb', t_b0, p_ar]
          exact ⟨_, rfl, True.intro, by rw [show 4 * i' + (j' + 1) = 4 * i' + j' + 1 by omega, t_ct, hb']; rfl, j1'⟩
        · by_cases he' : Int32.ofNat (t_ct R' (4 * i' + j')) = l'
          · right
            have hh' : t_hit R' l' (4 * i' + j') = true := by simp [t_hit, hb', he']
            rw [hh'] at j1'
            rw [he'] at hr'
            simp (disch := omega) only [p_bs, p_rq0, p_rq1, p_rz0, p_rz1, p_us, p_un, p_uj, ↓reduceIte, hl8', hlt', he', hr', hb', t_b0, Bool.true_eq_false]
            exact ⟨_, rfl, .inl ⟨j', hlt', rfl, j1'.symm⟩⟩
          · left
            have hh' : t_hit R' l' (4 * i' + j') = false := by simp [t_hit, he']
            rw [hh'] at j1'
            simp (disch := omega) only [p_bs, p_rq0, p_rq1, p_rz0, p_rz1, p_us, p_un, p_uj, ↓reduceIte, hl8', hlt', hr', hb', t_b0, Bool.true_eq_false, he', p_ar]
            exact ⟨_, rfl, True.intro, by rw [show 4 * i' + (j' + 1) = 4 * i' + j' + 1 by omega, t_ct, hb']; rfl, j1'⟩
      · right
        have hj'' : j' = 4 := by omega
        subst hj''
        simp (disch := omega) only [p_bs, p_rq0, p_rq1, p_rz0, p_rz1, p_us, p_un, p_uj, ↓reduceIte, hl8', Nat.lt_irrefl]
        exact ⟨_, rfl, .inr ⟨rfl, j1'⟩⟩) 4 0 q_fu (Int32.ofNat (t_ct R' (4 * i')), 0) (by omega) (by unfold q_fu; omega) ⟨rfl, hF'⟩
theorem s_r71 (hB' : p_B X') (l' : Int32) {R' : Nat → Bool} (hR' : R' = t_rp (t_e2 (I' 105)) (t_o2 (I' 105))) : ∃ z', q_lp (fun z' => B_X12_rests_71 87 l' z'.1 z'.2 (I', X')) q_fu ((0 : Int32), (0 : Int32)) = some z' ∧ ((∃ p', z' = .inl (Int32.ofNat (p' / 4), Int32.ofNat (p' % 4)) ∧ t_fi (t_hit R' l') 16 0 = some p') ∨ (z' = .inr (Int32.ofNat (t_ct R' 16)) ∧ t_fi (t_hit R' l') 16 0 = none)) := by
  exact p_lp (fun z' => B_X12_rests_71 87 l' z'.1 z'.2 (I', X')) (fun i' z' => z' = (Int32.ofNat (t_ct R' (4 * i')), Int32.ofNat i') ∧ t_fi (t_hit R' l') (16 - 4 * i') (4 * i') = t_fi (t_hit R' l') 16 0)
    (fun z' => (∃ p', z' = .inl (Int32.ofNat (p' / 4), Int32.ofNat (p' % 4)) ∧ t_fi (t_hit R' l') 16 0 = some p') ∨ (z' = .inr (Int32.ofNat (t_ct R' 16)) ∧ t_fi (t_hit R' l') 16 0 = none)) 4 (by
      rintro i' z' hi' ⟨rfl, j1'⟩
      have hl8' : (Int32.ofNat i' < 4) = (i' < 4) := p_lt i' 4 (by omega) (by decide)
      unfold B_X12_rests_71
      by_cases hlt' : i' < 4
      · obtain ⟨z', h1', h2'⟩ := s_r80 (I' := I') hB' l' hR' hlt' _ j1'
        rcases h2' with ⟨j', hj', rfl, h2'⟩ | ⟨rfl, h2'⟩
        · right
          simp (disch := omega) only [p_bs, p_rq0, p_rq1, p_rz0, p_rz1, p_us, p_un, p_uj, ↓reduceIte, hl8', hlt', h1']
          exact ⟨_, rfl, .inl ⟨4 * i' + j', by rw [show (4 * i' + j') / 4 = i' by omega, show (4 * i' + j') % 4 = j' by omega], h2'⟩⟩
        · left
          simp (disch := omega) only [p_bs, p_rq0, p_rq1, p_rz0, p_rz1, p_us, p_un, p_uj, ↓reduceIte, hl8', hlt', h1', p_ar]
          exact ⟨_, rfl, True.intro, rfl, h2'⟩
      · right
        have hi'' : i' = 4 := by omega
        subst hi''
        simp (disch := omega) only [p_bs, p_rq0, p_rq1, p_rz0, p_rz1, p_us, p_un, p_uj, ↓reduceIte, hl8', Nat.lt_irrefl]
        exact ⟨_, rfl, .inr ⟨rfl, j1'.symm⟩⟩) 4 0 q_fu (0, 0) (by omega) (by unfold q_fu; omega) ⟨rfl, rfl⟩
end PG'
