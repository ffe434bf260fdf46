/-! would a guest who likes a kind have had that joy -/
def t_hj (H' : t_H) (L' : t_L) (g' : Nat) (kk' : Int32) (d' w' : Nat) (y' : Int32) : Bool := !decide (t_jb L' (Int32.ofNat w') (decide (t_hd H' (d' * 3 + 2) = kk')) 1 0 (t_hg H' (g' * 4 + 3)) 0 < y')
section PL'
variable {X' : p_X} {I' : p_I} {H' : t_H} {L' : t_L}
theorem t_Lb1 (hW' : t_HW H') {g' : Nat} (hg' : g' < t_ng H') {w' : Nat} (hw' : w' ≤ 20) (l' : Bool) : t_Lb (t_lt (Int32.ofNat w') (t_b l') 1 0 (t_hg H' (g' * 4 + 3)) 0) := by
  obtain ⟨p', p1', p2'⟩ := hW'.2.2.2.2.2.2.2.2.1 g' hg'
  rw [p1']
  exact t_LbN w' 1 0 p' 0 l' hw' (by omega) (by omega) p2' (by omega)
theorem s_hasJoyC (hB' : p_B X') (hH' : t_HI H' I') (hW' : t_HW H') (hL' : t_LC L' X' I') {g' d' w' : Nat} (hg' : g' < t_ng H') (hd' : d' < t_nd H') (hw' : w' ≤ 20) (kk' y' : Int32) : ∃ J', F_X7_hasJoy 83 (Int32.ofNat g') kk' (Int32.ofNat d') (Int32.ofNat w') y' (I', X') = some (t_b (t_hj H' L' g' kk' d' w' y'), (J', X')) ∧ (∀ c', c' ≠ 65 → c' ≠ p_sc X' → J' c' = I' c') := by
  have hng' := hW'.2.2.2.1
  have hnd' := hW'.2.1
  have hD' : F_X3_ofDish 39 (Int32.ofNat d') 2 (I', X') = some (t_hd H' (d' * 3 + 2)) := s_ofDish hB' hH' d' 2 (by omega) (by omega)
  have hG' : F_X3_ofGuest 39 (Int32.ofNat g') 3 (I', X') = some (t_hg H' (g' * 4 + 3)) := s_ofGuest hB' hH' g' 3 (by omega) (by omega)
  have key' : ∀ b' : Bool, ∃ J', J_X7_hasJoy_18 83 (Int32.ofNat g') (Int32.ofNat w') y' (t_b b') (I', X') = some (t_b (!decide (t_jb L' (Int32.ofNat w') b' 1 0 (t_hg H' (g' * 4 + 3)) 0 < y')), (J', X')) ∧ (∀ c', c' ≠ 65 → c' ≠ p_sc X' → J' c' = I' c') := by
    intro b'
    obtain ⟨J', a1', a2'⟩ := s_joyBy hB' hL' (Int32.ofNat w') b' 1 0 (t_hg H' (g' * 4 + 3)) 0 (t_Lb1 hW' hg' hw' b')
    refine ⟨J', ?_, a2'⟩
    unfold J_X7_hasJoy_18
    simp (disch := omega) only [↓ce_83 hB', rf_83 hB', ↓ce_63 hB', rf_63 hB', ↓ce_39 hB', rf_39 hB', ↓nn_40, ↓nn_41, ↓nn_42, ↓nn_43, ↓nn_44, ↓nn_64, ↓nn_65, ↓nn_66, ↓nn_85, p_bs, p_rq0, p_rq1, p_rz0, p_rz1, p_us, p_un, p_uj, ↓reduceIte, hG', a1']
    by_cases c' : t_jb L' (Int32.ofNat w') b' 1 0 (t_hg H' (g' * 4 + 3)) 0 < y'
    · simp only [c', ↓reduceIte]; rfl
    · simp only [c', ↓reduceIte]; rfl
  unfold F_X7_hasJoy t_hj
  by_cases c' : t_hd H' (d' * 3 + 2) = kk'
  · obtain ⟨J', a1', a2'⟩ := key' true
    refine ⟨J', ?_, a2'⟩
    have a1'' : J_X7_hasJoy_18 83 (Int32.ofNat g') (Int32.ofNat w') y' 1 (I', X') = _ := a1'
    simp (disch := omega) only [↓ce_83 hB', rf_83 hB', ↓ce_39 hB', rf_39 hB', ↓nn_40, ↓nn_41, ↓nn_42, ↓nn_43, ↓nn_44, ↓nn_64, ↓nn_85, p_bs, p_rq0, p_rq1, p_rz0, p_rz1, p_us, p_un, p_uj, ↓reduceIte, hD', c', a1'']
    simp
  · obtain ⟨J', a1', a2'⟩ := key' false
    refine ⟨J', ?_, a2'⟩
    have a1'' : J_X7_hasJoy_18 83 (Int32.ofNat g') (Int32.ofNat w') y' 0 (I', X') = _ := a1'
    simp (disch := omega) only [↓ce_83 hB', rf_83 hB', ↓ce_39 hB', rf_39 hB', ↓nn_40, ↓nn_41, ↓nn_42, ↓nn_43, ↓nn_44, ↓nn_64, ↓nn_85, p_bs, p_rq0, p_rq1, p_rz0, p_rz1, p_us, p_un, p_uj, ↓reduceIte, hD', c', a1'']
    simp
theorem s_hasJoyM (hB' : p_B X') (hS0' : p_S I') (hM' : t_HM H' I') (hW' : t_HW H') (hL' : t_LM L' X' I') {g' d' w' : Nat} (hg' : g' < t_ng H') (hd' : d' < t_nd H') (hw' : w' ≤ 20) (kk' y' : Int32) : ∃ J' u', F_X12_hasJoy 87 (Int32.ofNat g') kk' (Int32.ofNat d') (Int32.ofNat w') y' (I', X') = some (t_b (t_hj H' L' g' kk' d' w' y'), (J', p_T X' u')) ∧ (∀ c', c' ≠ 87 → c' ≠ 91 → J' c' = I' c') ∧ (∀ j', ¬ t_m87 j' → J' 87 j' = I' 87 j') := by
  have hK' := s_kindOf hB' hM' hW' d' hd'
  have key' : ∀ b' : Bool, ∃ J' u', J_X12_hasJoy_18 y' 87 (Int32.ofNat g') (Int32.ofNat w') (t_b b') (I', X') = some (t_b (!decide (t_jb L' (Int32.ofNat w') b' 1 0 (t_hg H' (g' * 4 + 3)) 0 < y')), (J', p_T X' u')) ∧ (∀ c', c' ≠ 87 → c' ≠ 91 → J' c' = I' c') ∧ (∀ j', ¬ t_m87 j' → J' 87 j' = I' 87 j') := by
    intro b'
    obtain ⟨J', u', a1', a2', a3'⟩ := s_joyOf hB' hS0' hM' hW' hL' g' hg' w' hw' b' 1 0 0 (t_Lb1 hW' hg' hw' b')
    refine ⟨J', u', ?_, a2', fun j' hj' => a3' j' (by omega) (by omega)⟩
    unfold J_X12_hasJoy_18
    simp (disch := omega) only [↓ce_87 hB', rf_87 hB', ↓nn_31, ↓nn_33, ↓nn_89, ↓nn_90, ↓nn_91, ↓nn_92, ↓nn_93, ↓nn_94, ↓nn_95, ↓nn_96, ↓nn_97, ↓nn_98, ↓nn_99, ↓nn_100, ↓nn_101, ↓nn_102, ↓nn_103, ↓nn_104, ↓nn_105, ↓nn_106, ↓nn_107, ↓nn_108, p_bs, p_rq0, p_rq1, p_rz0, p_rz1, p_us, p_un, p_uj, ↓reduceIte, a1']
    by_cases c' : t_jb L' (Int32.ofNat w') b' 1 0 (t_hg H' (g' * 4 + 3)) 0 < y'
    · simp only [c', ↓reduceIte]; rfl
    · simp only [c', ↓reduceIte]; rfl
  unfold F_X12_hasJoy t_hj
  by_cases c' : t_hd H' (d' * 3 + 2) = kk'
  · obtain ⟨J', u', a1', a2', a3'⟩ := key' true
    refine ⟨J', u', ?_, a2', a3'⟩
    have a1'' : J_X12_hasJoy_18 y' 87 (Int32.ofNat g') (Int32.ofNat w') 1 (I', X') = _ := a1'
    simp (disch := omega) only [↓ce_87 hB', rf_87 hB', ↓nn_31, ↓nn_33, ↓nn_89, ↓nn_90, ↓nn_91, ↓nn_92, ↓nn_93, ↓nn_94, ↓nn_95, ↓nn_96, ↓nn_97, ↓nn_98, ↓nn_99, ↓nn_100, ↓nn_101, ↓nn_102, ↓nn_103, ↓nn_104, ↓nn_105, ↓nn_106, ↓nn_107, ↓nn_108, p_bs, p_rq0, p_rq1, p_rz0, p_rz1, p_us, p_un, p_uj, ↓reduceIte, hK', c', a1'']
    simp
  · obtain ⟨J', u', a1', a2', a3'⟩ := key' false
    refine ⟨J', u', ?_, a2', a3'⟩
    have a1'' : J_X12_hasJoy_18 y' 87 (Int32.ofNat g') (Int32.ofNat w') 0 (I', X') = _ := a1'
    simp (disch := omega) only [↓ce_87 hB', rf_87 hB', ↓nn_31, ↓nn_33, ↓nn_89, ↓nn_90, ↓nn_91, ↓nn_92, ↓nn_93, ↓nn_94, ↓nn_95, ↓nn_96, ↓nn_97, ↓nn_98, ↓nn_99, ↓nn_100, ↓nn_101, ↓nn_102, ↓nn_103, ↓nn_104, ↓nn_105, ↓nn_106, ↓nn_107, ↓nn_108, p_bs, p_rq0, p_rq1, p_rz0, p_rz1, p_us, p_un, p_uj, ↓reduceIte, hK', c', a1'']
    simp
end PL'
