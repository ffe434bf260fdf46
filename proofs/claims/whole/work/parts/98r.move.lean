/-! text: a house, both sides move in -/
section PV'
variable {X' : p_X} {I' : p_I}
theorem s_copyHouse (hB' : p_B X') {hs' : t_hs} (h21' : I' 2 1 = 20) (hG' : yq_GH hs') {K' : p_I} {e' : Nat} (hC' : t_CH K' e' hs' I') : ∃ J' ho', F_X3_copyFrom 39 44 (I', X') = some ((), (J', X')) ∧ (∀ c', ¬ (39 ≤ c' ∧ c' ≤ 43) → J' c' = I' c') ∧ J' 39 4 = Int32.ofNat hs'.2.2.2.1 ∧ J' 39 5 = Int32.ofNat hs'.2.2.2.2.1 ∧ (∀ k', k' < 3 → J' 40 k' = Int32.ofNat (hs'.1 k')) ∧ (∀ j', j' < 3 * hs'.2.2.2.1 → J' 41 j' = Int32.ofNat (hs'.2.1 j')) ∧ (∀ j', j' < 4 * hs'.2.2.2.2.1 → J' 42 j' = Int32.ofNat (hs'.2.2.1 j')) ∧ (∀ i', i' < hs'.2.2.2.2.1 → J' 43 i' = Int32.ofNat (ho' i')) ∧ yq_OR (fun g' => hs'.2.2.1 (4 * g')) hs'.2.2.2.2.1 21 0 hs'.2.2.2.2.1 ho' := by
  obtain ⟨-, -, -, c4', c5', c6', c7', c8', c9', c10', c11', -⟩ := hC'
  obtain ⟨-, -, g3', -, -⟩ := hG'
  obtain ⟨J1', hJ1'⟩ : ∃ J', J' = va_up I' 40 (va_cpy (I' 45) (I' 40) 0 0 3) := ⟨_, rfl⟩
  obtain ⟨J2', hJ2'⟩ : ∃ J', J' = va_up J1' 41 (va_cpy (J1' 46) (J1' 41) 0 0 15) := ⟨_, rfl⟩
  obtain ⟨J3', hJ3'⟩ : ∃ J', J' = va_up J2' 42 (va_cpy (J2' 47) (J2' 42) 0 0 24) := ⟨_, rfl⟩
  obtain ⟨J4', hJ4'⟩ : ∃ J', J' = q_u2 (q_u2 (q_u2 J3' 39 4 (Int32.ofNat hs'.2.2.2.1)) 39 5 (Int32.ofNat hs'.2.2.2.2.1)) 39 6 (t_b hs'.2.2.2.2.2) := ⟨_, rfl⟩
  have q1' : ∀ f' : q_Mem → Option (Unit × q_Mem), q_cp (I', X') 45 0 40 0 (Int32.ofNat 3) f' = f' (J1', X') := fun f' => by rw [hJ1']; exact s_cp (sh_45 hB') (sh_40 hB') (by decide) (by decide) 0 0 3 (by decide) (by decide) (by decide) (by decide) (by decide) f'
  have q2' : ∀ f' : q_Mem → Option (Unit × q_Mem), q_cp (J1', X') 46 0 41 0 (Int32.ofNat 15) f' = f' (J2', X') := fun f' => by rw [hJ2']; exact s_cp (sh_46 hB') (sh_41 hB') (by decide) (by decide) 0 0 15 (by decide) (by decide) (by decide) (by decide) (by decide) f'
  have q3' : ∀ f' : q_Mem → Option (Unit × q_Mem), q_cp (J2', X') 47 0 42 0 (Int32.ofNat 24) f' = f' (J3', X') := fun f' => by rw [hJ3']; exact s_cp (sh_47 hB') (sh_42 hB') (by decide) (by decide) 0 0 24 (by decide) (by decide) (by decide) (by decide) (by decide) f'
  have f1' : ∀ c', c' ≠ 40 → J1' c' = I' c' := fun c' hc' => by rw [hJ1']; exact p_ucp _ _ _ _ hc'
  have f2' : ∀ c', c' ≠ 41 → J2' c' = J1' c' := fun c' hc' => by rw [hJ2']; exact p_ucp _ _ _ _ hc'
  have f3' : ∀ c', c' ≠ 42 → J3' c' = J2' c' := fun c' hc' => by rw [hJ3']; exact p_ucp _ _ _ _ hc'
  have f4' : ∀ c', c' ≠ 39 → J4' c' = J3' c' := fun c' hc' => by rw [hJ4', p_uc _ _ _ _ _ hc', p_uc _ _ _ _ _ hc', p_uc _ _ _ _ _ hc']
  have v40' : ∀ k', k' < 3 → J4' 40 k' = I' 45 k' := fun k' hk' => by
    rw [f4' 40 (by decide), f3' 40 (by decide), f2' 40 (by decide), hJ1', p_usp]
    unfold va_cpy
    rw [if_pos ⟨by omega, by omega⟩]
    congr 1
    omega
  have v41' : ∀ k', k' < 15 → J4' 41 k' = I' 46 k' := fun k' hk' => by
    rw [f4' 41 (by decide), f3' 41 (by decide), hJ2', p_usp]
    unfold va_cpy
    rw [if_pos ⟨by omega, by omega⟩, f1' 46 (by decide)]
    congr 1
    omega
  have v42' : ∀ k', k' < 24 → J4' 42 k' = I' 47 k' := fun k' hk' => by
    rw [f4' 42 (by decide), hJ3', p_usp]
    unfold va_cpy
    rw [if_pos ⟨by omega, by omega⟩, f2' 47 (by decide), f1' 47 (by decide)]
    congr 1
    omega
  have v394 : J4' 39 4 = Int32.ofNat hs'.2.2.2.1 := by rw [hJ4', p_uj _ _ _ _ _ (by decide), p_uj _ _ _ _ _ (by decide), p_us]
  have v395 : J4' 39 5 = Int32.ofNat hs'.2.2.2.2.1 := by rw [hJ4', p_uj _ _ _ _ _ (by decide), p_us]
  have e44' : ∀ j', J3' 44 j' = I' 44 j' := fun j' => by rw [f3' 44 (by decide), f2' 44 (by decide), f1' 44 (by decide)]
  obtain ⟨J5', ho', o1', o2', o3', o4'⟩ := s_order (I' := J4') (X' := X') hB' (ng' := hs'.2.2.2.2.1) (cm' := fun g' => hs'.2.2.1 (4 * g')) (by omega) v395 (by rw [f4' 2 (by decide), f3' 2 (by decide), f2' 2 (by decide), f1' 2 (by decide)]; exact h21') (fun g' hg' => ⟨by rw [v42' _ (by omega), c6' _ (by omega), Nat.mul_comm], (g3' g' hg').1⟩)
  refine ⟨J5', ho', ?_, fun c' hc' => ?_, by rw [o2' 39 (by decide)]; exact v394, by rw [o2' 39 (by decide)]; exact v395, fun k' hk' => by rw [o2' 40 (by decide), v40' k' hk']; exact c4' k' hk', fun j' hj' => by rw [o2' 41 (by decide), v41' j' (by omega)]; exact c5' j' hj', fun j' hj' => by rw [o2' 42 (by decide), v42' j' (by omega)]; exact c6' j' hj', o3', o4'⟩
  · have w4' : J3' 44 4 = Int32.ofNat hs'.2.2.2.1 := by rw [e44']; exact c7'
    have w5' : J3' 44 5 = Int32.ofNat hs'.2.2.2.2.1 := by rw [e44']; exact c8'
    have w6' : J3' 44 6 = t_b hs'.2.2.2.2.2 := by rw [e44']; exact c9'
    have z6' : ∀ (M' : p_I) (f' : q_Mem → Option (Unit × q_Mem)), q_pZ (M', X') 39 3 6 (t_b hs'.2.2.2.2.2) f' = f' (q_u2 M' 39 6 (t_b hs'.2.2.2.2.2), X') := fun M' f' => by
      cases hs'.2.2.2.2.2
      · exact p_pZ0 (sh_39 hB') (by decide) M' 6 f'
      · exact p_pZ1 (sh_39 hB') (by decide) M' 6 f'
    unfold F_X3_copyFrom
    have a40' : ∀ f' : Int32 → Option (Unit × q_Mem), q_al (I', X') 40 f' = f' (Int32.ofNat 3) := fun f' => p_al (sh_40 hB') (by decide) I' f'
    have a41' : ∀ f' : Int32 → Option (Unit × q_Mem), q_al (J1', X') 41 f' = f' (Int32.ofNat 15) := fun f' => p_al (sh_41 hB') (by decide) J1' f'
    have a42' : ∀ f' : Int32 → Option (Unit × q_Mem), q_al (J2', X') 42 f' = f' (Int32.ofNat 24) := fun f' => p_al (sh_42 hB') (by decide) J2' f'
    simp (disch := omega) only [↓ce_39 hB', rf_39 hB', ↓ce_44 hB', rf_44 hB', ↓nn_41, ↓nn_42, ↓nn_43, ↓nn_44, ↓nn_46, ↓nn_47, ↓nn_48, ↓nn_49, p_bs, p_rq0, p_rq1, p_rz0, p_rz1, p_us, p_un, p_uj, ↓reduceIte, a40', q1']
    simp (disch := omega) only [↓ce_39 hB', rf_39 hB', ↓ce_44 hB', rf_44 hB', ↓nn_41, ↓nn_42, ↓nn_43, ↓nn_44, ↓nn_46, ↓nn_47, ↓nn_48, ↓nn_49, p_bs, p_rq0, p_rq1, p_rz0, p_rz1, p_us, p_un, p_uj, ↓reduceIte, a41', q2']
    simp (disch := omega) only [↓ce_39 hB', rf_39 hB', ↓ce_44 hB', rf_44 hB', ↓nn_41, ↓nn_42, ↓nn_43, ↓nn_44, ↓nn_46, ↓nn_47, ↓nn_48, ↓nn_49, p_bs, p_rq0, p_rq1, p_rz0, p_rz1, p_us, p_un, p_uj, ↓reduceIte, a42', q3']
    simp (disch := omega) only [↓ce_39 hB', rf_39 hB', ↓ce_44 hB', rf_44 hB', ↓nn_41, ↓nn_42, ↓nn_43, ↓nn_44, ↓nn_46, ↓nn_47, ↓nn_48, ↓nn_49, p_bs, p_rq0, p_rq1, p_rz0, p_rz1, p_us, p_un, p_uj, ↓reduceIte, w4', w5', w6', z6']
    rw [← hJ4']
    simp (disch := omega) only [↓ce_39 hB', rf_39 hB', ↓nn_41, ↓nn_42, ↓nn_43, ↓nn_44, p_bs, p_rq0, p_rq1, p_rz0, p_rz1, p_us, p_un, p_uj, ↓reduceIte, o1']
  · rw [o2' c' (by omega), f4' c' (by omega), f3' c' (by omega), f2' c' (by omega), f1' c' (by omega)]
theorem s_moveIn (hB' : p_B X') {hs' : t_hs} (h21' : I' 2 1 = 20) (hG' : yq_GH hs') {K' : p_I} {e' : Nat} (hC' : t_CH K' e' hs' I') : ∃ J' ho', F_X11_moveIn 36 (I', X') = some (Int32.ofNat hs'.2.2.2.2.1, (J', X')) ∧ (∀ c', ¬ (39 ≤ c' ∧ c' ≤ 43) → c' ≠ 36 → c' ≠ 54 → c' ≠ 57 → c' ≠ 83 → J' c' = I' c') ∧ (∀ j', j' ≠ 18 → J' 36 j' = I' 36 j') ∧ J' 36 18 = 1 ∧ J' 57 6 = 0 ∧ J' 57 4 = 0 ∧ J' 57 5 = I' 57 5 ∧ J' 83 3 = 0 ∧ J' 39 4 = Int32.ofNat hs'.2.2.2.1 ∧ J' 39 5 = Int32.ofNat hs'.2.2.2.2.1 ∧ (∀ k', k' < 3 → J' 40 k' = Int32.ofNat (hs'.1 k')) ∧ (∀ j', j' < 3 * hs'.2.2.2.1 → J' 41 j' = Int32.ofNat (hs'.2.1 j')) ∧ (∀ j', j' < 4 * hs'.2.2.2.2.1 → J' 42 j' = Int32.ofNat (hs'.2.2.1 j')) ∧ (∀ i', i' < hs'.2.2.2.2.1 → J' 43 i' = Int32.ofNat (ho' i')) ∧ yq_OR (fun g' => hs'.2.2.1 (4 * g')) hs'.2.2.2.2.1 21 0 hs'.2.2.2.2.1 ho' ∧ (∀ g', g' < hs'.2.2.2.2.1 → J' 54 (13 + g') = Int32.ofNat (hs'.2.2.1 (4 * g' + 1)) ∧ J' 54 (19 + g') = Int32.ofNat (hs'.2.2.1 (4 * g' + 2))) ∧ J' 54 1 = Int32.ofNat (hs'.1 0) ∧ J' 54 2 = Int32.ofNat (hs'.1 2) ∧ J' 54 3 = -1 ∧ (∀ j', j' < 31 → j' ≠ 1 → j' ≠ 2 → j' ≠ 3 → ¬ (∃ g', g' < hs'.2.2.2.2.1 ∧ (j' = 13 + g' ∨ j' = 19 + g')) → J' 54 j' = 0) := by
  obtain ⟨J1', ho', a1', a2', a3', a4', a5', a6', a7', a8', a9'⟩ := s_copyHouse hB' h21' hG' hC'
  have hng' := hG'.2.2.2.2
  obtain ⟨J2', hJ2'⟩ : ∃ J', J' = q_u2 J1' 36 18 1 := ⟨_, rfl⟩
  have f2' : ∀ c', c' ≠ 36 → J2' c' = J1' c' := fun c' hc' => by rw [hJ2']; exact p_uc _ _ _ _ _ hc'
  obtain ⟨J3', b1', b2', b3', b4', b5', b6', b7'⟩ := s_begin (I' := J2') hB' hng' (by rw [f2' 39 (by decide)]; exact a4')
  obtain ⟨J4', hJ4'⟩ : ∃ J', J' = q_u2 (q_u2 (q_u2 J3' 57 6 0) 57 4 0) 83 3 0 := ⟨_, rfl⟩
  have f4' : ∀ c', c' ≠ 57 → c' ≠ 83 → J4' c' = J3' c' := fun c' z1' z2' => by rw [hJ4', p_uc _ _ _ _ _ z2', p_uc _ _ _ _ _ z1', p_uc _ _ _ _ _ z1']
  have e39' : J4' 39 5 = Int32.ofNat hs'.2.2.2.2.1 := by rw [f4' 39 (by decide) (by decide), b2' 39 (by decide), f2' 39 (by decide)]; exact a4'
  refine ⟨J4', ho', ?_, fun c' z1' z2' z3' z4' z5' => by rw [f4' c' z4' z5', b2' c' z3', f2' c' z2']; exact a2' c' z1', fun j' hj' => by rw [f4' 36 (by decide) (by decide), b2' 36 (by decide), hJ2', p_uj _ _ _ _ _ hj', a2' 36 (by decide)], by rw [f4' 36 (by decide) (by decide), b2' 36 (by decide), hJ2']; exact p_us _ _ _ _, by rw [hJ4', p_uc _ _ _ _ _ (by decide), p_uj _ _ _ _ _ (by decide), p_us], by rw [hJ4', p_uc _ _ _ _ _ (by decide), p_us], by rw [hJ4', p_uc _ _ _ _ _ (by decide), p_uj _ _ _ _ _ (by decide), p_uj _ _ _ _ _ (by decide), b2' 57 (by decide), f2' 57 (by decide), a2' 57 (by decide)], by rw [hJ4']; exact p_us _ _ _ _, by rw [f4' 39 (by decide) (by decide), b2' 39 (by decide), f2' 39 (by decide)]; exact a3', e39', fun k' hk' => by rw [f4' 40 (by decide) (by decide), b2' 40 (by decide), f2' 40 (by decide)]; exact a5' k' hk', fun k' hk' => by rw [f4' 41 (by decide) (by decide), b2' 41 (by decide), f2' 41 (by decide)]; exact a6' k' hk', fun k' hk' => by rw [f4' 42 (by decide) (by decide), b2' 42 (by decide), f2' 42 (by decide)]; exact a7' k' hk', fun k' hk' => by rw [f4' 43 (by decide) (by decide), b2' 43 (by decide), f2' 43 (by decide)]; exact a8' k' hk', a9', fun g' hg' => by
    rw [f4' 54 (by decide) (by decide), (b3' g' hg').1, (b3' g' hg').2, f2' 42 (by decide), Nat.mul_comm g' 4, a7' _ (by omega), a7' _ (by omega)]
    exact ⟨rfl, rfl⟩, by rw [f4' 54 (by decide) (by decide), b4', f2' 40 (by decide)]; exact a5' 0 (by decide), by rw [f4' 54 (by decide) (by decide), b5', f2' 40 (by decide)]; exact a5' 2 (by decide), by rw [f4' 54 (by decide) (by decide)]; exact b6', fun j' z1' z2' z3' z4' z5' => by rw [f4' 54 (by decide) (by decide)]; exact b7' j' z1' z2' z3' z4' z5'⟩
  unfold F_X11_moveIn F_X6_forget
  simp (disch := omega) only [↓ce_36 hB', rf_36 hB', ↓ce_39 hB', rf_39 hB', ↓nn_38, ↓nn_40, ↓nn_41, ↓nn_42, ↓nn_43, ↓nn_44, ↓nn_45, ↓nn_50, ↓nn_52, ↓nn_53, ↓nn_54, ↓nn_56, ↓nn_58, ↓nn_64, ↓nn_67, ↓nn_68, ↓nn_84, p_bs, p_rq0, p_rq1, p_rz0, p_rz1, p_us, p_un, p_uj, ↓reduceIte, a1']
  rw [← hJ2']
  simp (disch := omega) only [↓ce_36 hB', rf_36 hB', ↓ce_39 hB', rf_39 hB', ↓nn_38, ↓nn_40, ↓nn_41, ↓nn_42, ↓nn_43, ↓nn_44, ↓nn_45, ↓nn_50, ↓nn_52, ↓nn_53, ↓nn_54, ↓nn_56, ↓nn_58, ↓nn_64, ↓nn_67, ↓nn_68, ↓nn_84, p_bs, p_rq0, p_rq1, p_rz0, p_rz1, p_us, p_un, p_uj, ↓reduceIte, b1']
  have e395 : J3' 39 5 = Int32.ofNat hs'.2.2.2.2.1 := by rw [← f4' 39 (by decide) (by decide)]; exact e39'
  simp (disch := omega) only [↓ce_36 hB', rf_36 hB', ↓ce_39 hB', rf_39 hB', ↓ce_53 hB', rf_53 hB', ↓ce_57 hB', rf_57 hB', ↓ce_83 hB', rf_83 hB', ↓nn_38, ↓nn_40, ↓nn_41, ↓nn_42, ↓nn_43, ↓nn_44, ↓nn_45, ↓nn_50, ↓nn_52, ↓nn_53, ↓nn_54, ↓nn_55, ↓nn_56, ↓nn_58, ↓nn_59, ↓nn_60, ↓nn_61, ↓nn_62, ↓nn_64, ↓nn_67, ↓nn_68, ↓nn_84, ↓nn_85, p_bs, p_rq0, p_rq1, p_rz0, p_rz1, p_us, p_un, p_uj, ↓reduceIte, e395]
  rw [← hJ4']
theorem s_mtext0 (hB' : p_B X') {J' : p_I} {nd' ng' : Nat} (hng' : ng' ≤ 6) (hf' : F_X12_fault 87 (Int32.ofNat 0) (q_u2 I' 87 0 0, X') = some (J' 87 11, (J', p_T X' 89))) (h11' : J' 87 11 = -1) (h28' : J' 87 28 = Int32.ofNat nd') (h29' : J' 87 29 = Int32.ofNat ng') : ∃ K', F_X12_text 87 (Int32.ofNat 0) (I', X') = some (Int32.ofNat ng', (K', p_T X' 89)) ∧ (∀ c', c' ≠ 87 → c' ≠ 92 → c' ≠ 94 → c' ≠ 96 → c' ≠ 100 → K' c' = J' c') ∧ (∀ j', j' ≠ 6 → j' ≠ 26 → j' ≠ 27 → j' ≠ 42 → j' ≠ 45 → j' ≠ 49 → K' 87 j' = J' 87 j') ∧ K' 87 6 = 0 ∧ K' 87 26 = Int32.ofNat nd' ∧ K' 87 27 = Int32.ofNat ng' ∧ K' 87 42 = 0 ∧ K' 87 45 = 0 ∧ K' 87 49 = 0 ∧ (∀ j', j' < 3 → K' 92 j' = J' 93 j') ∧ (∀ j', j' < 15 → K' 94 j' = J' 95 j') ∧ (∀ j', j' < 24 → K' 96 j' = J' 97 j') ∧ (∀ g', g' < ng' → K' 100 (4 * g') = J' 97 (4 * g' + 1) ∧ K' 100 (4 * g' + 1) = J' 97 (4 * g' + 2)) ∧ K' 100 32 = J' 93 0 ∧ K' 100 33 = J' 93 2 ∧ (∀ j', j' < 217 → j' ≠ 32 → j' ≠ 33 → ¬ (∃ g', g' < ng' ∧ (j' = 4 * g' ∨ j' = 4 * g' + 1)) → K' 100 j' = 0) := by
  have hin' : ∀ M' : q_Mem, F_X12_isIn (Int32.ofNat 0).toInt64 0 2 M' = some (t_b (t_inr (Int32.ofNat 0) 3)) := fun M' => s_isInT _ 2 (by decide) 0 2 rfl rfl M'
  have hr' : t_inr (Int32.ofNat 0) 3 = true := by decide
  have hB'' := p_BT hB' 89
  obtain ⟨J1', hJ1'⟩ : ∃ M', M' = q_u2 (q_u2 (q_u2 J' 87 6 0) 87 26 (Int32.ofNat nd')) 87 27 (Int32.ofNat ng') := ⟨_, rfl⟩
  have f1' : ∀ c', c' ≠ 87 → J1' c' = J' c' := fun c' hc' => by rw [hJ1', p_uc _ _ _ _ _ hc', p_uc _ _ _ _ _ hc', p_uc _ _ _ _ _ hc']
  have g1' : ∀ j', j' ≠ 6 → j' ≠ 26 → j' ≠ 27 → J1' 87 j' = J' 87 j' := fun j' z1' z2' z3' => by rw [hJ1', p_uj _ _ _ _ _ z3', p_uj _ _ _ _ _ z2', p_uj _ _ _ _ _ z1']
  have v26' : J1' 87 26 = Int32.ofNat nd' := by rw [hJ1', p_uj _ _ _ _ _ (by decide), p_us]
  have v27' : J1' 87 27 = Int32.ofNat ng' := by rw [hJ1', p_us]
  have v6' : J1' 87 6 = 0 := by rw [hJ1', p_uj _ _ _ _ _ (by decide), p_uj _ _ _ _ _ (by decide), p_us]
  obtain ⟨J2', a1', a2', a3'⟩ := s_mv1 (I' := J1') hB''
  obtain ⟨J3', b1', b2', b3'⟩ := s_mv2 (I' := J2') hB''
  obtain ⟨J4', c1', c2', c3'⟩ := s_mv3 (I' := J3') hB''
  obtain ⟨J5', d1', d2', d3'⟩ := s_mv4 (I' := J4') hB''
  have e5' : ∀ c', c' ≠ 92 → c' ≠ 94 → c' ≠ 96 → c' ≠ 100 → J5' c' = J1' c' := fun c' z1' z2' z3' z4' => by rw [d2' c' z4', c2' c' z3', b2' c' z2', a2' c' z1']
  obtain ⟨J6', k1', k2', k3', k4'⟩ := s_mv5 (I' := J5') hB'' hng' (by rw [e5' 87 (by decide) (by decide) (by decide) (by decide)]; exact v27')
  have e6' : ∀ c', c' ≠ 92 → c' ≠ 94 → c' ≠ 96 → c' ≠ 100 → J6' c' = J1' c' := fun c' z1' z2' z3' z4' => by rw [k2' c' z4']; exact e5' c' z1' z2' z3' z4'
  have v92' : ∀ j', j' < 3 → J6' 92 j' = J' 93 j' := fun j' hj' => by rw [k2' 92 (by decide), d2' 92 (by decide), c2' 92 (by decide), b2' 92 (by decide), a3' j' hj', f1' 93 (by decide)]
  have v94' : ∀ j', j' < 15 → J6' 94 j' = J' 95 j' := fun j' hj' => by rw [k2' 94 (by decide), d2' 94 (by decide), c2' 94 (by decide), b3' j' hj', a2' 95 (by decide), f1' 95 (by decide)]
  have v965 : ∀ j', j' < 24 → J5' 96 j' = J' 97 j' := fun j' hj' => by rw [d2' 96 (by decide), c3' j' hj', b2' 97 (by decide), a2' 97 (by decide), f1' 97 (by decide)]
  have v96' : ∀ j', j' < 24 → J6' 96 j' = J' 97 j' := fun j' hj' => by rw [k2' 96 (by decide)]; exact v965 j' hj'
  obtain ⟨J7', hJ7'⟩ : ∃ M', M' = q_u2 (q_u2 J6' 100 32 (J' 93 0)) 100 33 (J' 93 2) := ⟨_, rfl⟩
  have f7' : ∀ c', c' ≠ 100 → J7' c' = J6' c' := fun c' hc' => by rw [hJ7', p_uc _ _ _ _ _ hc', p_uc _ _ _ _ _ hc']
  have g7' : ∀ j', j' ≠ 32 → j' ≠ 33 → J7' 100 j' = J6' 100 j' := fun j' z1' z2' => by rw [hJ7', p_uj _ _ _ _ _ z2', p_uj _ _ _ _ _ z1']
  obtain ⟨J8', hJ8'⟩ : ∃ M', M' = q_u2 (q_u2 (q_u2 J7' 87 45 0) 87 42 0) 87 49 0 := ⟨_, rfl⟩
  have f8' : ∀ c', c' ≠ 87 → J8' c' = J7' c' := fun c' hc' => by rw [hJ8', p_uc _ _ _ _ _ hc', p_uc _ _ _ _ _ hc', p_uc _ _ _ _ _ hc']
  have g8' : ∀ j', j' ≠ 45 → j' ≠ 42 → j' ≠ 49 → J8' 87 j' = J1' 87 j' := fun j' z1' z2' z3' => by rw [hJ8', p_uj _ _ _ _ _ z3', p_uj _ _ _ _ _ z2', p_uj _ _ _ _ _ z1', f7' 87 (by decide), e6' 87 (by decide) (by decide) (by decide) (by decide)]
  have w27' : J8' 87 27 = Int32.ofNat ng' := by rw [g8' 27 (by decide) (by decide) (by decide)]; exact v27'
  refine ⟨J8', ?_, fun c' z1' z2' z3' z4' z5' => by rw [f8' c' z1', f7' c' z5', e6' c' z2' z3' z4' z5']; exact f1' c' z1', fun j' z1' z2' z3' z4' z5' z6' => by rw [g8' j' z5' z4' z6']; exact g1' j' z1' z2' z3', by rw [g8' 6 (by decide) (by decide) (by decide)]; exact v6', by rw [g8' 26 (by decide) (by decide) (by decide)]; exact v26', w27', by rw [hJ8', p_uj _ _ _ _ _ (by decide), p_us], by rw [hJ8', p_uj _ _ _ _ _ (by decide), p_uj _ _ _ _ _ (by decide), p_us], by rw [hJ8', p_us], fun j' hj' => by rw [f8' 92 (by decide), f7' 92 (by decide)]; exact v92' j' hj', fun j' hj' => by rw [f8' 94 (by decide), f7' 94 (by decide)]; exact v94' j' hj', fun j' hj' => by rw [f8' 96 (by decide), f7' 96 (by decide)]; exact v96' j' hj', fun g' hg' => by
    rw [f8' 100 (by decide), g7' _ (by omega) (by omega), g7' _ (by omega) (by omega), (k3' g' hg').1, (k3' g' hg').2, v965 _ (by omega), v965 _ (by omega)]
    exact ⟨rfl, rfl⟩, by rw [f8' 100 (by decide), hJ7', p_uj _ _ _ _ _ (by decide), p_us], by rw [f8' 100 (by decide), hJ7', p_us], fun j' z1' z2' z3' z4' => by rw [f8' 100 (by decide), g7' j' z2' z3', k4' j' z4']; exact d3' j' z1'⟩
  have h29'' : J' 87 29 = Int32.ofNat ng' := h29'
  have h28'' : J' 87 28 = Int32.ofNat nd' := h28'
  unfold F_X12_text J_X12_text_30 J_X12_text_43
  simp (disch := omega) only [↓ce_87 hB', rf_87 hB', ↓nn_31, ↓nn_33, ↓nn_89, ↓nn_90, ↓nn_91, ↓nn_92, ↓nn_93, ↓nn_94, ↓nn_95, ↓nn_96, ↓nn_97, ↓nn_98, ↓nn_99, ↓nn_100, ↓nn_101, ↓nn_102, ↓nn_103, ↓nn_104, ↓nn_105, ↓nn_106, ↓nn_107, ↓nn_108, p_bs, p_rq0, p_rq1, p_rz0, p_rz1, p_us, p_un, p_uj, ↓reduceIte, hin', hr', t_b0, Bool.true_eq_false, show (Int32.ofNat 0 = 1) = False from by decide, show (Int32.ofNat 0 = 2) = False from by decide, hf', h11']
  have hB' := hB''
  simp (disch := omega) only [↓ce_87 hB', rf_87 hB', ↓nn_31, ↓nn_33, ↓nn_89, ↓nn_90, ↓nn_91, ↓nn_92, ↓nn_93, ↓nn_94, ↓nn_95, ↓nn_96, ↓nn_97, ↓nn_98, ↓nn_99, ↓nn_100, ↓nn_101, ↓nn_102, ↓nn_103, ↓nn_104, ↓nn_105, ↓nn_106, ↓nn_107, ↓nn_108, p_bs, p_rq0, p_rq1, p_rz0, p_rz1, p_us, p_un, p_uj, ↓reduceIte, h28'', h29'']
  rw [← hJ1']
  have l0' : ∀ f' : Int32 → Option (Int32 × q_Mem), q_lI (J6', p_T X' 89) 0 92 0 f' = f' (J' 93 0) := fun f' => by rw [← v92' 0 (by decide)]; exact p_lI (sh_92 hB') (by decide) J6' 0 f' (by decide)
  have l2' : ∀ (v' : Int32) (f' : Int32 → Option (Int32 × q_Mem)), q_lI (q_u2 J6' 100 32 v', p_T X' 89) 0 92 2 f' = f' (J' 93 2) := fun v' f' => by
    rw [← v92' 2 (by decide), ← p_uc J6' 100 32 v' 92 (by decide)]
    exact p_lI (sh_92 hB') (by decide) _ 2 f' (by decide)
  have t1' : ∀ (M' : p_I) (v' : Int32) (f' : q_Mem → Option (Int32 × q_Mem)), q_tI (M', p_T X' 89) 100 32 v' f' = f' (q_u2 M' 100 32 v', p_T X' 89) := fun M' v' f' => p_tI (sh_100 hB') (by decide) (by decide) M' 32 v' f' (by decide)
  have t2' : ∀ (M' : p_I) (v' : Int32) (f' : q_Mem → Option (Int32 × q_Mem)), q_tI (M', p_T X' 89) 100 33 v' f' = f' (q_u2 M' 100 33 v', p_T X' 89) := fun M' v' f' => p_tI (sh_100 hB') (by decide) (by decide) M' 33 v' f' (by decide)
  simp (disch := omega) only [p_bs, p_rq0, p_rq1, p_rz0, p_rz1, p_us, p_un, p_uj, ↓reduceIte, a1', b1', c1', d1', k1']
  simp (disch := omega) only [↓ce_87 hB', rf_87 hB', ↓nn_31, ↓nn_33, ↓nn_89, ↓nn_90, ↓nn_91, ↓nn_92, ↓nn_93, ↓nn_94, ↓nn_95, ↓nn_96, ↓nn_97, ↓nn_98, ↓nn_99, ↓nn_100, ↓nn_101, ↓nn_102, ↓nn_103, ↓nn_104, ↓nn_105, ↓nn_106, ↓nn_107, ↓nn_108, p_bs, p_rq0, p_rq1, p_rz0, p_rz1, p_us, p_un, p_uj, ↓reduceIte, l0', t1', l2', t2']
  rw [← hJ7']
  rw [← hJ8', ← f7' 87 (by decide), ← w27', g8' 27 (by decide) (by decide) (by decide), f7' 87 (by decide), e6' 87 (by decide) (by decide) (by decide) (by decide)]
end PV'
