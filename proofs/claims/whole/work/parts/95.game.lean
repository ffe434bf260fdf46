/-! a game of two guests -/
noncomputable def t_g1 (H' : t_H) (s' : Nat → Int32) (g' : Nat) : Int32 := if t_tp H' s' g' = true then (if t_fd H' s' g' = true then 2 else 0) - t_hg H' (g' * 4 + 3) else 0
noncomputable def t_gn (H' : t_H) (L' : t_L) (s' : Nat → Int32) (g' : Nat) : Nat → Int32
  | 0 => 0
  | i' + 1 => t_gn H' L' s' g' i' + t_g1 H' (t_yi H' L' s' i') g'
/-- the row with longer stays -/
def t_gr (s' : Nat → Int32) (a' b' x' y' : Nat) : Nat → Int32 := va_up (va_up s' (13 + a') (s' (13 + a') + Int32.ofNat x')) (13 + b') (s' (13 + b') + Int32.ofNat y')
noncomputable def t_gm (H' : t_H) (L' : t_L) (s' : Nat → Int32) (a' b' x' y' g' : Nat) : Int32 := t_gn H' L' (t_gr s' a' b' x' y') g' 8 + (t_yi H' L' (t_gr s' a' b' x' y') 8 (25 + g') - s' (25 + g'))
section PG'
variable {X' : p_X} {I' : p_I} {H' : t_H} {L' : t_L} {s' : Nat → Int32}
theorem t_fdt {g' : Nat} (h' : t_fd H' s' g' = true) : t_tp H' s' g' = true := (t_qM H' s' _ g' h').2
theorem t_grW (hS' : t_WF H' s') (h99' : ∀ g', g' < 6 → ∃ n', s' (13 + g') = Int32.ofNat n' ∧ n' ≤ 99) {a' b' x' y' : Nat} (ha' : a' < 6) (hb' : b' < 6) (hab' : a' ≠ b') (hx' : x' ≤ 3) (hy' : y' ≤ 3) : t_WF H' (t_gr s' a' b' x' y') := by
  obtain ⟨w1', w2', w3', w4', w5', w6', w7', w8'⟩ := hS'
  obtain ⟨na', a1', a2'⟩ := h99' a' ha'
  obtain ⟨nb', b1', b2'⟩ := h99' b' hb'
  unfold t_gr
  refine ⟨?_, ?_, ?_, ?_, ?_, ?_, ?_, ?_⟩
  · rw [p_vn _ _ _ _ (by omega), p_vn _ _ _ _ (by omega)]; exact w1'
  · rw [p_vn _ _ _ _ (by omega), p_vn _ _ _ _ (by omega)]; exact w2'
  · rw [p_vn _ _ _ _ (by omega), p_vn _ _ _ _ (by omega)]; exact w3'
  · intro j' hj'; simp (disch := omega) only [p_vn]; exact w4' j' hj'
  · intro j' hj'; simp (disch := omega) only [p_vn]; exact w5' j' hj'
  · intro j' hj'
    by_cases e' : j' = b'
    · subst e'; rw [p_vs, b1']; exact ⟨nb' + y', (Int32.ofNat_add nb' y').symm, by omega⟩
    · rw [p_vn _ _ _ _ (by omega)]
      by_cases e2' : j' = a'
      · subst e2'; rw [p_vs, a1']; exact ⟨na' + x', (Int32.ofNat_add na' x').symm, by omega⟩
      · rw [p_vn _ _ _ _ (by omega)]; exact w6' j' hj'
  · rw [p_vn _ _ _ _ (by omega), p_vn _ _ _ _ (by omega)]; exact w7'
  · intro j' h1' h2'; simp (disch := omega) only [p_vn]; exact w8' j' h1' h2'
theorem s_gain (hB' : p_B X') (hH' : t_HI H' I') (hE' : t_EV H' s' I') (g' : Nat) (hg' : g' < 6) : F_X2_gainBesideJoy 67 (Int32.ofNat g') (I', X') = some (t_g1 H' s' g') := by
  obtain ⟨e1', e2', e3', e4', e5', e6', e7', e8', e9'⟩ := hE'
  have hG3' : F_X3_ofGuest 39 (Int32.ofNat g') 3 (I', X') = some (t_hg H' (g' * 4 + 3)) := s_ofGuest hB' hH' g' 3 (by omega) (by omega)
  unfold F_X2_gainBesideJoy J_X2_gainBesideJoy_19
  simp (disch := omega) only [↓ce_67 hB', rf_67 hB', ↓ce_63 hB', rf_63 hB', ↓ce_39 hB', rf_39 hB', ↓nn_40, ↓nn_41, ↓nn_42, ↓nn_43, ↓nn_44, ↓nn_64, ↓nn_65, ↓nn_66, ↓nn_67, ↓nn_69, ↓nn_71, ↓nn_72, ↓nn_73, p_bs, p_rq0, p_rq1, p_rz0, p_rz1, p_us, p_un, p_uj, ↓reduceIte, e7', e1', t_bitE, t_BA _ g' hg', hG3']
  unfold t_g1
  cases hf' : t_fd H' s' g'
  · cases ht' : t_tp H' s' g' <;> simp
  · rw [t_fdt hf']; simp
theorem s_playLp (hB' : p_B X') (hH' : t_HI H' I') (hW' : t_HW H') (hL' : t_LC L' X' I') (hS' : t_WF H' (I' 69)) {D' : Nat} (hD' : I' 69 0 = Int32.ofNat D') (hD'' : D' ≤ 999) {a' b' : Nat} (ha' : a' < 6) (hb' : b' < 6) (h10' : I' 67 10 = 0) (h11' : I' 67 11 = 0) : ∃ J', q_lp (fun z' => B_X2_play_55 67 53 (Int32.ofNat a') (Int32.ofNat b') z'.1 z'.2) q_fu ((0 : Int32), (I', X')) = some (J', X') ∧ (∀ c', c' ≠ 63 → c' ≠ 64 → c' ≠ 65 → c' ≠ p_sc X' → c' ≠ 67 → c' ≠ 69 → J' c' = I' c') ∧ (∀ j', j' ≠ 10 → j' ≠ 11 → J' 67 j' = I' 67 j') ∧ J' 67 10 = t_gn H' L' (I' 69) a' 8 ∧ J' 67 11 = t_gn H' L' (I' 69) b' 8 ∧ J' 69 = t_yi H' L' (I' 69) 8 := by
  have hsc' := p_scN hL'
  obtain ⟨z', h1', J', rfl, j1'⟩ := p_lp (fun z' => B_X2_play_55 67 53 (Int32.ofNat a') (Int32.ofNat b') z'.1 z'.2) (fun i' z' => ∃ J', z' = (Int32.ofNat i', (J', X')) ∧ (∀ c', c' ≠ 63 → c' ≠ 64 → c' ≠ 65 → c' ≠ p_sc X' → c' ≠ 67 → c' ≠ 69 → J' c' = I' c') ∧ (∀ j', j' ≠ 10 → j' ≠ 11 → J' 67 j' = I' 67 j') ∧ J' 67 10 = t_gn H' L' (I' 69) a' i' ∧ J' 67 11 = t_gn H' L' (I' 69) b' i' ∧ J' 69 = t_yi H' L' (I' 69) i')
    (fun z' => ∃ J', z' = (J', X') ∧ (∀ c', c' ≠ 63 → c' ≠ 64 → c' ≠ 65 → c' ≠ p_sc X' → c' ≠ 67 → c' ≠ 69 → J' c' = I' c') ∧ (∀ j', j' ≠ 10 → j' ≠ 11 → J' 67 j' = I' 67 j') ∧ J' 67 10 = t_gn H' L' (I' 69) a' 8 ∧ J' 67 11 = t_gn H' L' (I' 69) b' 8 ∧ J' 69 = t_yi H' L' (I' 69) 8) 8 (by
      rintro i' z' hi' ⟨J', rfl, j1', j2', j3', j4', j5'⟩
      have hl8' : (Int32.ofNat i' < 8) = (i' < 8) := p_lt i' 8 (by omega) (by decide)
      unfold B_X2_play_55
      by_cases hlt' : i' < 8
      · left
        have hw' := t_yiW (L' := L') hW' hS' hD' i' (by omega)
        obtain ⟨K', k1', k2', k3', k4'⟩ := s_pass (I' := J') (k' := 68) (L' := L') hB' (t_HIk hH' (fun c' h1' h2' => j1' c' (by omega) (by omega) (by omega) (by omega) (by omega) (by omega))) hW' (by omega) (by rw [j5']; exact hw'.1) (t_LCk hL' (fun c' h1' h2' => j1' c' (by omega) (by omega) (by omega) h2' (by omega) (by omega)))
        have k3'' : t_EV H' (t_yi H' L' (I' 69) i') K' := by rw [← j5']; exact k3'
        have k4'' : K' 69 = t_yi H' L' (I' 69) (i' + 1) := by
          have k4'' : K' 69 = t_ps H' L' (J' 69) := k4'
          rw [k4'', j5']
          rfl
        have e67' : K' 67 = J' 67 := k2' 67 (by decide) (by decide) (by decide) (by omega) (by decide)
        have hHK' : t_HI H' K' := t_HIk hH' (fun c' h1' h2' => by rw [k2' c' (by omega) (by omega) (by omega) (by omega) (by omega)]; exact j1' c' (by omega) (by omega) (by omega) (by omega) (by omega) (by omega))
        have g1' := s_gain (I' := K') hB' hHK' k3'' a' ha'
        have g2' : ∀ v', F_X2_gainBesideJoy 67 (Int32.ofNat b') (q_u2 K' 67 10 v', X') = some (t_g1 H' (t_yi H' L' (I' 69) i') b') := fun v' => by
          have hHK'' : t_HI H' (q_u2 K' 67 10 v') := t_HIk hHK' (fun c' h1' h2' => p_uc _ _ _ _ _ (by omega))
          refine s_gain hB' hHK'' ?_ b' hb'
          unfold t_EV
          rw [p_uc _ _ _ _ _ (by decide), p_uc _ _ _ _ _ (by decide)]
          exact k3''
        have l10' : K' 67 10 = t_gn H' L' (I' 69) a' i' := by rw [e67']; exact j3'
        have l11' : ∀ v', q_u2 K' 67 10 v' 67 11 = t_gn H' L' (I' 69) b' i' := fun v' => by rw [p_uj _ _ _ _ _ (by decide), e67']; exact j4'
        simp (disch := omega) only [↓ce_67 hB', rf_67 hB', ↓ce_63 hB', rf_63 hB', ↓ce_68 hB', rf_68 hB', ↓nn_40, ↓nn_64, ↓nn_65, ↓nn_66, ↓nn_67, ↓nn_69, ↓nn_70, ↓nn_71, ↓nn_72, ↓nn_73, p_bs, p_rq0, p_rq1, p_rz0, p_rz1, p_us, p_un, p_uj, ↓reduceIte, hl8', hlt', k1', g1', g2', l10', l11', p_ar]
        refine ⟨_, rfl, True.intro, _, rfl, fun c' h1' h2' h3' h4' h5' h6' => ?_, fun j' h1' h2' => ?_, ?_, ?_, ?_⟩
        · rw [p_uc _ _ _ _ _ h5', p_uc _ _ _ _ _ h5', k2' c' h1' h2' h3' h4' h6']; exact j1' c' h1' h2' h3' h4' h5' h6'
        · rw [p_uj _ _ _ _ _ h2', p_uj _ _ _ _ _ h1', e67']; exact j2' j' h1' h2'
        · rw [p_uj _ _ _ _ _ (by decide), p_us]; rfl
        · rw [p_us]; rfl
        · rw [p_uc _ _ _ _ _ (by decide), p_uc _ _ _ _ _ (by decide)]; exact k4''
      · right
        have hi'' : i' = 8 := by omega
        subst hi''
        simp (disch := omega) only [p_bs, p_rq0, p_rq1, p_rz0, p_rz1, p_us, p_un, p_uj, ↓reduceIte, hl8', Nat.lt_irrefl]
        exact ⟨_, rfl, J', rfl, j1', j2', j3', j4', j5'⟩) 8 0 q_fu (0, (I', X')) (by omega) (by unfold q_fu; omega) ⟨I', rfl, fun _ _ _ _ _ _ _ => rfl, fun _ _ _ => rfl, h10', h11', rfl⟩
  exact ⟨J', h1', j1'⟩
theorem s_play (hB' : p_B X') (hH' : t_HI H' I') (hW' : t_HW H') (hL' : t_LC L' X' I') (hS' : t_WF H' (I' 54)) (h99' : ∀ g', g' < 6 → ∃ n', I' 54 (13 + g') = Int32.ofNat n' ∧ n' ≤ 99) {D' : Nat} (hD' : I' 54 0 = Int32.ofNat D') (hD'' : D' ≤ 999) {a' b' x' y' : Nat} (ha' : a' < 6) (hb' : b' < 6) (hab' : a' ≠ b') (hx' : x' ≤ 3) (hy' : y' ≤ 3) : ∃ J' s', F_X2_play 67 53 (Int32.ofNat a') (Int32.ofNat b') (Int32.ofNat x') (Int32.ofNat y') (I', X') = some ((), (J', X')) ∧ (∀ j', j' < 31 → s' j' = I' 54 j') ∧ (∀ c', c' ≠ 63 → c' ≠ 64 → c' ≠ 65 → c' ≠ p_sc X' → c' ≠ 67 → c' ≠ 69 → J' c' = I' c') ∧ (∀ j', j' ≠ 10 → j' ≠ 11 → J' 67 j' = I' 67 j') ∧ J' 67 10 = t_gm H' L' s' a' b' x' y' a' ∧ J' 67 11 = t_gm H' L' s' a' b' x' y' b' := by
  have hsc' := p_scN hL'
  obtain ⟨J1', a1', a2', a3'⟩ := s_copyFrom (I' := I') (k1' := 68) (k2' := 53) hB' (by omega) (by omega)
  have a2'' : ∀ c', c' ≠ 69 → J1' c' = I' c' := a2'
  have a3'' : ∀ j', j' < 31 → J1' 69 j' = I' 54 j' := a3'
  have e13' : ∀ g' : Nat, (13 : Int32) + Int32.ofNat g' = Int32.ofNat (13 + g') := fun g' => (Int32.ofNat_add 13 g').symm
  have e25' : ∀ g' : Nat, (25 : Int32) + Int32.ofNat g' = Int32.ofNat (25 + g') := fun g' => (Int32.ofNat_add 25 g').symm
  have hI2' : ∃ I2' : p_I, I2' = q_u2 (q_u2 (q_u2 (q_u2 J1' 69 (13 + a') (J1' 69 (13 + a') + Int32.ofNat x')) 69 (13 + b') (J1' 69 (13 + b') + Int32.ofNat y')) 67 10 0) 67 11 0 := ⟨_, rfl⟩
  obtain ⟨I2', hI2'⟩ := hI2'
  have r69' : I2' 69 = t_gr (J1' 69) a' b' x' y' := by rw [hI2', p_uc _ _ _ _ _ (by decide), p_uc _ _ _ _ _ (by decide), p_ur, p_ur]; rfl
  have f2' : ∀ c', c' ≠ 67 → c' ≠ 69 → I2' c' = I' c' := fun c' z1' z2' => by rw [hI2', p_uc _ _ _ _ _ z1', p_uc _ _ _ _ _ z1', p_uc _ _ _ _ _ z2', p_uc _ _ _ _ _ z2']; exact a2'' c' z2'
  have f67' : ∀ j', j' ≠ 10 → j' ≠ 11 → I2' 67 j' = I' 67 j' := fun j' z1' z2' => by rw [hI2', p_uj _ _ _ _ _ z2', p_uj _ _ _ _ _ z1', p_uc _ _ _ _ _ (by decide), p_uc _ _ _ _ _ (by decide), a2'' 67 (by decide)]
  have z10' : I2' 67 10 = 0 := by rw [hI2', p_uj _ _ _ _ _ (by decide), p_us]
  have z11' : I2' 67 11 = 0 := by rw [hI2', p_us]
  have hgW' := t_grW (t_WFa hS' a3'') (fun g' hg' => by rw [a3'' _ (by omega)]; exact h99' g' hg') ha' hb' hab' hx' hy'
  obtain ⟨J', b1', b2', b3', b4', b5', b6'⟩ := s_playLp (I' := I2') (L' := L') hB' (t_HIk hH' (fun c' h1' h2' => f2' c' (by omega) (by omega))) hW' (t_LCk hL' (fun c' h1' h2' => f2' c' (by omega) (by omega))) (by rw [r69']; exact hgW') (D' := D') (by rw [r69']; unfold t_gr; rw [p_vn _ _ _ _ (by omega), p_vn _ _ _ _ (by omega), a3'' 0 (by decide)]; exact hD') hD'' ha' hb' z10' z11'
  rw [r69'] at b4' b5' b6'
  have e54' : J' 54 = I' 54 := by rw [b2' 54 (by decide) (by decide) (by decide) (by omega) (by decide) (by decide)]; exact f2' 54 (by decide) (by decide)
  have hne' : ∀ v', q_u2 J1' 69 (13 + a') v' 69 (13 + b') = J1' 69 (13 + b') := fun v' => p_uj _ _ _ _ _ (by omega)
  refine ⟨q_u2 (q_u2 J' 67 10 (t_gm H' L' (J1' 69) a' b' x' y' a')) 67 11 (t_gm H' L' (J1' 69) a' b' x' y' b'), J1' 69, ?_, a3'', fun c' h1' h2' h3' h4' h5' h6' => ?_, fun j' h1' h2' => ?_, ?_, p_us _ _ _ _⟩
  · unfold F_X2_play
    rw [hI2'] at b1'
    have l11' : ∀ v', q_u2 J' 67 10 v' 67 11 = t_gn H' L' (t_gr (J1' 69) a' b' x' y') b' 8 := fun v' => by rw [p_uj _ _ _ _ _ (by decide)]; exact b5'
    have c1' : ∀ g', g' < 6 → J' 54 (25 + g') = J1' 69 (25 + g') := fun g' hg' => by rw [e54', a3'' _ (by omega)]
    simp (disch := omega) only [↓ce_67 hB', rf_67 hB', ↓ce_68 hB', rf_68 hB', ↓ce_53 hB', rf_53 hB', ↓ce_54 hB', ↓ce_69 hB', ↓nn_40, ↓nn_55, ↓nn_64, ↓nn_67, ↓nn_69, ↓nn_70, ↓nn_71, ↓nn_72, ↓nn_73, p_bs, p_rq0, p_rq1, p_rz0, p_rz1, p_us, p_un, p_uj, ↓reduceIte, a1', e13', e25', hne', b1', b4', b5', b6', l11', c1' a' ha', c1' b' hb', p_uc]
    rfl
  · rw [p_uc _ _ _ _ _ h5', p_uc _ _ _ _ _ h5', b2' c' h1' h2' h3' h4' h5' h6']; exact f2' c' h5' h6'
  · rw [p_uj _ _ _ _ _ h2', p_uj _ _ _ _ _ h1', b3' j' h1' h2']; exact f67' j' h1' h2'
  · rw [p_uj _ _ _ _ _ (by decide), p_us]
end PG'
