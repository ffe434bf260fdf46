/-! likes: class's side -/
def t_en (H' : t_H) (L' : t_L) (e' : Nat → Int32) (g' : Nat) (kk' : Int32) (i' : Nat) : Bool := !decide (e' (5 * i') = Int32.ofNat g') || decide (t_b (t_hj H' L' g' kk' (e' (5 * i' + 1)).toNatClampNeg (e' (5 * i' + 2)).toNatClampNeg (e' (5 * i' + 3))) = e' (5 * i' + 4))
def t_lk (P' : Nat → Bool) : Nat → Int32
  | 0 => 0
  | n' + 1 => if P' n' = true then t_lk P' n' ||| ((1 : Int32) <<< (Int32.ofNat n' &&& 31)) else t_lk P' n'
/-- what was seen is sound -/
def t_CE (H' : t_H) (e' : Nat → Int32) (k' : Nat) : Prop := ∀ i', i' < k' → ∃ g' d' w' had', e' (5 * i') = Int32.ofNat g' ∧ g' < t_ng H' ∧ e' (5 * i' + 1) = Int32.ofNat d' ∧ d' < t_nd H' ∧ e' (5 * i' + 2) = Int32.ofNat w' ∧ w' ≤ 20 ∧ e' (5 * i' + 4) = t_b had'
section PL'
variable {X' : p_X} {I' : p_I} {H' : t_H} {L' : t_L}
theorem s_mayLike (hB' : p_B X') (hH' : t_HI H' I') (hW' : t_HW H') (hL' : t_LC L' X' I') {k' : Nat} (hk' : k' ≤ 10) (h3' : I' 83 3 = Int32.ofNat k') (hE' : t_CE H' (I' 84) k') {g' : Nat} (hg' : g' < t_ng H') (kk' : Int32) : ∃ J', F_X7_mayLike 83 (Int32.ofNat g') kk' (I', X') = some (t_b (t_al (t_en H' L' (I' 84) g' kk') k'), (J', X')) ∧ (∀ c', c' ≠ 65 → c' ≠ p_sc X' → J' c' = I' c') := by
  have hsc' := p_scN hL'
  have hng' := hW'.2.2.2.1
  have hnd' := hW'.2.1
  obtain ⟨z', h1', h2'⟩ := p_lp (fun z' => B_X7_mayLike_2 83 (Int32.ofNat g') kk' z'.1 z'.2) (fun i' z' => ∃ J', z' = (Int32.ofNat i', (J', X')) ∧ (∀ c', c' ≠ 65 → c' ≠ p_sc X' → J' c' = I' c') ∧ t_al (t_en H' L' (I' 84) g' kk') i' = true)
    (fun z' => ∃ J', (∀ c', c' ≠ 65 → c' ≠ p_sc X' → J' c' = I' c') ∧ ((z' = .inl (J', X') ∧ t_al (t_en H' L' (I' 84) g' kk') k' = false) ∨ (z' = .inr (J', X') ∧ t_al (t_en H' L' (I' 84) g' kk') k' = true))) k' (by
      rintro i' z' hi' ⟨J', rfl, j1', j2'⟩
      have l3' : J' 83 3 = Int32.ofNat k' := by rw [j1' 83 (by decide) (by omega)]; exact h3'
      have e84' : J' 84 = I' 84 := j1' 84 (by decide) (by omega)
      have hlk' : (Int32.ofNat i' < Int32.ofNat k') = (i' < k') := p_lt i' k' (by omega) (by omega)
      have i5' : Int32.ofNat i' * 5 = Int32.ofNat (5 * i') := by rw [show (5 : Int32) = Int32.ofNat 5 from rfl, ← Int32.ofNat_mul, Nat.mul_comm]
      unfold B_X7_mayLike_2 J_X7_mayLike_83_2 J_X7_mayLike_88_2
      by_cases hlt' : i' < k'
      · have h10' : (Int32.ofNat i' < 10) = True := by
          rw [show (10 : Int32) = Int32.ofNat 10 from rfl, p_lt i' 10 (by omega) (by decide)]
          apply eq_true
          omega
        obtain ⟨g'', d', w', had', y1', y2', y3', y4', y5', y6', y7'⟩ := hE' i' hlt'
        by_cases hgg' : g'' = g'
        · subst hgg'
          obtain ⟨K', k1', k2'⟩ := s_hasJoyC (I' := J') (L' := L') hB' (t_HIk hH' (fun c' h1' h2' => j1' c' (by omega) (by omega))) hW' (t_LCk hL' (fun c' h1' h2' => j1' c' (by omega) h2')) hg' y4' y6' kk' (I' 84 (5 * i' + 3))
          have kf' : ∀ c', c' ≠ 65 → c' ≠ p_sc X' → K' c' = I' c' := fun c' z1' z2' => by rw [k2' c' z1' z2']; exact j1' c' z1' z2'
          have f84' : K' 84 = I' 84 := kf' 84 (by decide) (by omega)
          have en' : t_en H' L' (I' 84) g'' kk' i' = decide (t_b (t_hj H' L' g'' kk' d' w' (I' 84 (5 * i' + 3))) = t_b had') := by
            unfold t_en
            rw [y1', y3', y5', y7', p_nat d' (by omega), p_nat w' (by omega)]
            simp
          by_cases hc' : t_b (t_hj H' L' g'' kk' d' w' (I' 84 (5 * i' + 3))) = t_b had'
          · left
            have en'' : t_en H' L' (I' 84) g'' kk' i' = true := by rw [en']; simp [hc']
            refine ⟨(Int32.ofNat (i' + 1), (K', X')), ?_, hlt', K', rfl, kf', by rw [t_al, j2', en'']; rfl⟩
            simp (disch := omega) only [↓ce_83 hB', rf_83 hB', ↓ce_84 hB', ↓nn_40, ↓nn_64, ↓nn_85, p_bs, p_rq0, p_rq1, p_rz0, p_rz1, p_us, p_un, p_uj, ↓reduceIte, l3', hlk', hlt', h10', i5', p_ar, e84', f84', y1', y3', y5', y7', k1', t_b1]
            generalize t_hj H' L' g'' kk' d' w' (I' 84 (5 * i' + 3)) = q' at hc' ⊢
            cases had' <;> cases q' <;> first | exact absurd hc' (by decide) | rfl | simp [t_b]
          · right
            have en'' : t_en H' L' (I' 84) g'' kk' i' = false := by rw [en']; simp [hc']
            refine ⟨.inl (K', X'), ?_, K', kf', .inl ⟨rfl, t_alF hlt' en''⟩⟩
            simp (disch := omega) only [↓ce_83 hB', rf_83 hB', ↓ce_84 hB', ↓nn_40, ↓nn_64, ↓nn_85, p_bs, p_rq0, p_rq1, p_rz0, p_rz1, p_us, p_un, p_uj, ↓reduceIte, l3', hlk', hlt', h10', i5', p_ar, e84', f84', y1', y3', y5', y7', k1', t_b1]
            generalize t_hj H' L' g'' kk' d' w' (I' 84 (5 * i' + 3)) = q' at hc' ⊢
            cases had' <;> cases q' <;> first | exact absurd rfl hc' | rfl | simp [t_b]
        · left
          have hne' : (Int32.ofNat g'' = Int32.ofNat g') = False := eq_false (fun e' => hgg' (p_inj e' (by omega) (by omega)))
          have en'' : t_en H' L' (I' 84) g' kk' i' = true := by
            unfold t_en
            rw [y1']
            simp only [hne', decide_false, Bool.not_false, Bool.true_or]
          refine ⟨(Int32.ofNat (i' + 1), (J', X')), ?_, hlt', J', rfl, j1', by rw [t_al, j2', en'']; rfl⟩
          simp (disch := omega) only [↓ce_83 hB', rf_83 hB', ↓ce_84 hB', ↓nn_40, ↓nn_64, ↓nn_85, p_bs, p_rq0, p_rq1, p_rz0, p_rz1, p_us, p_un, p_uj, ↓reduceIte, l3', hlk', hlt', h10', i5', p_ar, e84', y1', hne']
      · right
        have hi'' : i' = k' := by omega
        subst hi''
        refine ⟨.inr (J', X'), ?_, J', j1', .inr ⟨rfl, j2'⟩⟩
        simp (disch := omega) only [↓ce_83 hB', rf_83 hB', ↓nn_40, ↓nn_64, ↓nn_85, p_bs, p_rq0, p_rq1, p_rz0, p_rz1, p_us, p_un, p_uj, ↓reduceIte, l3', hlk', Nat.lt_irrefl]) k' 0 q_fu (0, (I', X')) (by omega) (by unfold q_fu; omega) ⟨I', rfl, fun _ _ _ => rfl, rfl⟩
  obtain ⟨J', j1', j2'⟩ := h2'
  refine ⟨J', ?_, j1'⟩
  unfold F_X7_mayLike
  rw [h1']
  rcases j2' with ⟨rfl, j2'⟩ | ⟨rfl, j2'⟩
  · rw [j2']; rfl
  · rw [j2']; rfl
theorem s_kindsLeft (hB' : p_B X') (hH' : t_HI H' I') (hW' : t_HW H') (hL' : t_LC L' X' I') {k' : Nat} (hk' : k' ≤ 10) (h3' : I' 83 3 = Int32.ofNat k') (hE' : t_CE H' (I' 84) k') {g' : Nat} (hg' : g' < t_ng H') : ∃ J', F_X7_kindsLeft 83 (Int32.ofNat g') (I', X') = some (t_lk (fun q' => t_al (t_en H' L' (I' 84) g' (Int32.ofNat q')) k') 4, (J', X')) ∧ (∀ c', c' ≠ 65 → c' ≠ p_sc X' → J' c' = I' c') := by
  have hsc' := p_scN hL'
  obtain ⟨z', h1', J', rfl, j1'⟩ := p_lp (fun z' => B_X7_kindsLeft_4 83 (Int32.ofNat g') z'.1 z'.2.1 z'.2.2) (fun i' z' => ∃ J', z' = (t_lk (fun q' => t_al (t_en H' L' (I' 84) g' (Int32.ofNat q')) k') i', Int32.ofNat i', (J', X')) ∧ (∀ c', c' ≠ 65 → c' ≠ p_sc X' → J' c' = I' c'))
    (fun z' => ∃ J', z' = (t_lk (fun q' => t_al (t_en H' L' (I' 84) g' (Int32.ofNat q')) k') 4, (J', X')) ∧ (∀ c', c' ≠ 65 → c' ≠ p_sc X' → J' c' = I' c')) 4 (by
      rintro i' z' hi' ⟨J', rfl, j1'⟩
      have hl8' : (Int32.ofNat i' < 4) = (i' < 4) := p_lt i' 4 (by omega) (by decide)
      have e84' : J' 84 = I' 84 := j1' 84 (by decide) (by omega)
      unfold B_X7_kindsLeft_4 J_X7_kindsLeft_24_4
      by_cases hlt' : i' < 4
      · left
        obtain ⟨K', k1', k2'⟩ := s_mayLike (I' := J') (L' := L') hB' (t_HIk hH' (fun c' h1' h2' => j1' c' (by omega) (by omega))) hW' (t_LCk hL' (fun c' h1' h2' => j1' c' (by omega) h2')) hk' (by rw [j1' 83 (by decide) (by omega)]; exact h3') (by rw [e84']; exact hE') hg' (Int32.ofNat i')
        rw [e84'] at k1'
        have kf' : ∀ c', c' ≠ 65 → c' ≠ p_sc X' → K' c' = I' c' := fun c' z1' z2' => by rw [k2' c' z1' z2']; exact j1' c' z1' z2'
        cases hb' : t_al (t_en H' L' (I' 84) g' (Int32.ofNat i')) k'
        · simp (disch := omega) only [↓ce_83 hB', rf_83 hB', ↓nn_40, ↓nn_64, ↓nn_85, p_bs, p_rq0, p_rq1, p_rz0, p_rz1, p_us, p_un, p_uj, ↓reduceIte, hl8', hlt', k1', hb', t_b0, p_ar]
          exact ⟨_, rfl, True.intro, K', by rw [t_lk]; simp only [hb', Bool.false_eq_true, ↓reduceIte], kf'⟩
        · simp (disch := omega) only [↓ce_83 hB', rf_83 hB', ↓nn_40, ↓nn_64, ↓nn_85, p_bs, p_rq0, p_rq1, p_rz0, p_rz1, p_us, p_un, p_uj, ↓reduceIte, hl8', hlt', k1', hb', t_b0, Bool.true_eq_false, p_ar]
          exact ⟨_, rfl, True.intro, K', by rw [t_lk]; simp only [hb', ↓reduceIte], kf'⟩
      · right
        have hi'' : i' = 4 := by omega
        subst hi''
        simp (disch := omega) only [p_bs, p_rq0, p_rq1, p_rz0, p_rz1, p_us, p_un, p_uj, ↓reduceIte, hl8', Nat.lt_irrefl]
        exact ⟨_, rfl, J', rfl, j1'⟩) 4 0 q_fu (0, 0, (I', X')) (by omega) (by unfold q_fu; omega) ⟨I', rfl, fun _ _ _ => rfl⟩
  refine ⟨J', ?_, j1'⟩
  unfold F_X7_kindsLeft
  rw [h1']
  rfl
end PL'
