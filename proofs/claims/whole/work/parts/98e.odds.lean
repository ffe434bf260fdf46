/-! odds: the class -/
def yq_il (H' : t_H) (ch' : Nat) (s' : Nat → Int32) (a' : Nat) : Nat := if t_can H' s' 2 (-1) (-1) = true then a' * ch' / 100 else 0
noncomputable def yq_od (H' : t_H) (L' : t_L) (g' ch' : Nat) : Nat → (Nat → Int32) → Nat → Nat
  | 0, s', a' => if t_fd H' s' g' = true then a' else 0
  | m' + 1, s', a' => yq_od H' L' g' ch' m' (t_ps H' L' s') (a' - yq_il H' ch' s' a') + yq_od H' L' g' ch' m' (t_ps H' L' (va_up s' 1 (s' 1 + 1))) (yq_il H' ch' s' a')
theorem yq_il0 (H' : t_H) (ch' : Nat) (s' : Nat → Int32) : yq_il H' ch' s' 0 = 0 := by
  unfold yq_il
  split
  · rw [Nat.zero_mul]
  · rfl
theorem yq_ilL (H' : t_H) {ch' : Nat} (hc' : ch' ≤ 100) (s' : Nat → Int32) (a' : Nat) : yq_il H' ch' s' a' ≤ a' := by
  unfold yq_il
  split
  · have h1' : a' * ch' ≤ a' * 100 := Nat.mul_le_mul_left a' hc'
    have h2' : a' * ch' / 100 ≤ a' * 100 / 100 := Nat.div_le_div_right h1'
    rw [Nat.mul_div_cancel a' (by decide)] at h2'
    exact h2'
  · exact Nat.zero_le _
theorem yq_od0 (H' : t_H) (L' : t_L) (g' ch' m' : Nat) (s' : Nat → Int32) : yq_od H' L' g' ch' m' s' 0 = 0 := by
  induction m' generalizing s' with
  | zero => rw [yq_od]; split <;> rfl
  | succ m' ih' => rw [yq_od, yq_il0, Nat.sub_zero, ih', ih']
theorem yq_odL (H' : t_H) (L' : t_L) (g' : Nat) {ch' : Nat} (hc' : ch' ≤ 100) (m' : Nat) (s' : Nat → Int32) (a' : Nat) : yq_od H' L' g' ch' m' s' a' ≤ a' := by
  induction m' generalizing s' a' with
  | zero => rw [yq_od]; split <;> omega
  | succ m' ih' =>
    rw [yq_od]
    have h1' := ih' (t_ps H' L' s') (a' - yq_il H' ch' s' a')
    have h2' := ih' (t_ps H' L' (va_up s' 1 (s' 1 + 1))) (yq_il H' ch' s' a')
    have h3' := yq_ilL H' hc' s' a'
    omega
theorem p_o64 (n' : Nat) (h' : n' < 2147483648) : (Int32.ofNat n').toInt64 = Int64.ofNat n' := Int32.toInt64_ofNat' (by
  have : Int32.maxValue.toInt = 2147483647 := rfl
  omega)
theorem p_i64 (a' : Nat) (h' : a' < 9223372036854775808) : (Int64.ofNat a').toInt = (a' : Int) := Int64.toInt_ofNat_of_lt (by omega)
theorem p_z64 (a' : Nat) (h' : a' < 9223372036854775808) : (lg_cmp (Int64.ofNat a') 0 = 0) = (a' = 0) := by
  have h0' : (0 : Int64).toInt = 0 := rfl
  apply propext
  unfold lg_cmp
  constructor
  · intro e'
    by_cases h1' : Int64.ofNat a' > 0
    · rw [if_pos h1'] at e'; exact absurd e' (by decide)
    · rw [if_neg h1'] at e'
      by_cases h2' : Int64.ofNat a' = 0
      · have := congrArg Int64.toInt h2'
        rw [p_i64 a' h', h0'] at this
        omega
      · rw [if_neg h2'] at e'; exact absurd e' (by decide)
  · intro e'
    subst e'
    rfl
theorem p_d64 (a' b' : Nat) (ha' : a' < 9223372036854775808) (hb' : b' < 9223372036854775808) : Int64.ofNat a' / Int64.ofNat b' = Int64.ofNat (a' / b') := by
  apply Int64.toInt_inj.mp
  rw [Int64.toInt_div_of_ne_left]
  · rw [p_i64 a' ha', p_i64 b' hb', p_i64 _ (Nat.lt_of_le_of_lt (Nat.div_le_self _ _) ha')]
    rfl
  · intro e'
    have := congrArg Int64.toInt e'
    rw [p_i64 a' ha'] at this
    have h1' : Int64.minValue.toInt = -9223372036854775808 := rfl
    omega
theorem p_s64 (a' b' : Nat) (h' : b' ≤ a') : Int64.ofNat a' - Int64.ofNat b' = Int64.ofNat (a' - b') := by
  have e' : Int64.ofNat a' = Int64.ofNat (a' - b') + Int64.ofNat b' := by
    rw [← Int64.ofNat_add, Nat.sub_add_cancel h']
  rw [e', Int64.add_sub_cancel]
section PO'
variable {X' : p_X} {I' : p_I} {H' : t_H} {L' : t_L} {s' : Nat → Int32}
theorem yq_illW (hS' : t_WF H' s') (hc' : t_can H' s' 2 (-1) (-1) = true) : t_WF H' (va_up s' 1 (s' 1 + 1)) := by
  obtain ⟨w1', ⟨h', q1', q2'⟩, w3', w4', w5', w6', w7', w8'⟩ := hS'
  have hh' : h' < 3 := by
    simp only [t_can, decide_eq_true_eq, q1'] at hc'
    rw [show (3 : Int32) = Int32.ofNat 3 from rfl, p_lt h' 3 (by omega) (by omega)] at hc'
    exact hc'
  refine ⟨?_, ?_, ?_, ?_, ?_, ?_, ?_, ?_⟩
  · rw [p_vn _ _ _ _ (by omega)]; exact w1'
  · rw [p_vs, q1']; exact ⟨h' + 1, (Int32.ofNat_add h' 1).symm, by omega⟩
  · rw [p_vn _ _ _ _ (by omega)]; exact w3'
  · intro j' hj'; simp (disch := omega) only [p_vn]; exact w4' j' hj'
  · intro j' hj'; simp (disch := omega) only [p_vn]; exact w5' j' hj'
  · intro j' hj'; simp (disch := omega) only [p_vn]; exact w6' j' hj'
  · rw [p_vn _ _ _ _ (by omega)]; exact w7'
  · intro g' h1' h2'; simp (disch := omega) only [p_vn]; exact w8' g' h1' h2'
theorem s_parts (hB' : p_B X') (hW' : t_HW H') {g' ch' n' : Nat} (hg' : g' < 6) (hch' : ch' ≤ 100) (hn' : n' ≤ 4) : ∀ (m' k' fu' : Nat) (I' : p_I) (s' : Nat → Int32) (a' D' : Nat), k' + m' = n' → m' < fu' → t_HI H' I' → t_LC L' X' I' → (∀ j', j' < 31 → I' (74 + 2 * k') j' = s' j') → t_WF H' s' → s' 0 = Int32.ofNat D' → D' + m' ≤ 1999 → a' ≤ 1000000000 → ∃ J', R_X2_partsFed fu' 0 67 (Int32.ofNat k') (Int32.ofNat g') (Int32.ofNat n') (Int32.ofNat ch') (Int64.ofNat a') (I', X') = some (Int64.ofNat (yq_od H' L' g' ch' m' s' a'), (J', X')) ∧ (∀ c', c' ≠ 63 → c' ≠ 64 → c' ≠ 65 → c' ≠ p_sc X' → (c' ≤ 74 + 2 * k' ∨ 83 ≤ c' ∨ c' % 2 = 1) → J' c' = I' c') := by
  intro m'
  have hnd' := hW'.2.1
  have hng' := hW'.2.2.2.1
  induction m' with
  | zero =>
    intro k' fu' I' s' a' D' hkn' hfu' hH' hL' hrow hS' hD' hD'' ha'
    obtain ⟨fu', rfl⟩ : ∃ f', fu' = f' + 1 := ⟨fu' - 1, by omega⟩
    have hsc' := p_scN hL'
    have ha0' : (lg_cmp (Int64.ofNat a') 0 = 0) = (a' = 0) := p_z64 a' (by omega)
    show ∃ J', F_X2_partsFed (R_X2_partsFed fu') 67 (Int32.ofNat k') (Int32.ofNat g') (Int32.ofNat n') (Int32.ofNat ch') (Int64.ofNat a') (I', X') = _ ∧ _
    unfold F_X2_partsFed
    by_cases hz' : a' = 0
    · refine ⟨I', ?_, fun _ _ _ _ _ _ => rfl⟩
      simp only [ha0', hz', ↓reduceIte]
      rw [yq_od0]
      rfl
    · have hkn'' : (Int32.ofNat k' < Int32.ofNat n') = False := by
        rw [p_lt k' n' (by omega) (by omega)]
        apply eq_false; omega
      have hq0' : t_SK (73 + 2 * k') := by omega
      have hr0' : X'.2.1 70 k' = 73 + 2 * k' + 1 := p_70 hB' (by omega)
      have hrow' : ∀ j', j' < 31 → I' (73 + 2 * k' + 1) j' = s' j' := fun j' hj' => by rw [show 73 + 2 * k' + 1 = 74 + 2 * k' by omega]; exact hrow j' hj'
      obtain ⟨J', a1', a2', a3'⟩ := s_lay (I' := I') (k' := 73 + 2 * k') hB' hH' hW' hq0' (t_WFa hS' hrow')
      have e10' : J' 63 10 = t_B (t_fd H' s') := by rw [a3'.2.2.2.2.2.2.1, t_fdC hng' hrow']
      refine ⟨J', ?_, fun c' z1' z2' z3' z4' z5' => a2' c' z1' z2'⟩
      unfold J_X2_partsFed_21
      simp only [ha0', hz', hkn'', ↓reduceIte]
      simp (disch := omega) only [↓ce_67 hB', rf_67 hB', ↓ce_70 hB', rf_70 hB', ↓ce_63 hB', rf_63 hB', ↓nn_40, ↓nn_64, ↓nn_65, ↓nn_66, ↓nn_67, ↓nn_69, ↓nn_71, ↓nn_72, ↓nn_73, ↓nn_74, ↓nn_76, ↓nn_78, ↓nn_80, ↓nn_82, p_bs, p_rq0, p_rq1, p_rz0, p_rz1, p_us, p_un, p_uj, ↓reduceIte, hr0', p_nns, a1', e10', t_bitE, t_BA _ g' hg']
      rw [yq_od]
      cases t_fd H' s' g' <;> rfl
  | succ m' ih' =>
    intro k' fu' I' s' a' D' hkn' hfu' hH' hL' hrow hS' hD' hD'' ha'
    obtain ⟨fu', rfl⟩ : ∃ f', fu' = f' + 1 := ⟨fu' - 1, by omega⟩
    have hsc' := p_scN hL'
    have ha0' : (lg_cmp (Int64.ofNat a') 0 = 0) = (a' = 0) := p_z64 a' (by omega)
    show ∃ J', F_X2_partsFed (R_X2_partsFed fu') 67 (Int32.ofNat k') (Int32.ofNat g') (Int32.ofNat n') (Int32.ofNat ch') (Int64.ofNat a') (I', X') = _ ∧ _
    by_cases hz' : a' = 0
    · refine ⟨I', ?_, fun _ _ _ _ _ _ => rfl⟩
      unfold F_X2_partsFed
      simp only [ha0', hz', ↓reduceIte]
      rw [yq_od0]
      rfl
    · have hkn'' : (Int32.ofNat k' < Int32.ofNat n') = True := by
        rw [p_lt k' n' (by omega) (by omega)]
        apply eq_true; omega
      have hk1' : Int32.ofNat k' + 1 = Int32.ofNat (k' + 1) := (Int32.ofNat_add k' 1).symm
      have hk5' : (Int32.ofNat (k' + 1) < 5) = True := by
        rw [show (5 : Int32) = Int32.ofNat 5 from rfl, p_lt (k' + 1) 5 (by omega) (by omega)]
        apply eq_true; omega
      have hr1' : X'.2.1 70 (k' + 1) = 75 + 2 * k' + 1 := by rw [p_70 hB' (by omega)]; omega
      have hr0' : X'.2.1 70 k' = 73 + 2 * k' + 1 := p_70 hB' (by omega)
      have hq' : t_SK (75 + 2 * k') := by omega
      have hq0' : t_SK (73 + 2 * k') := by omega
      have hil' := yq_ilL H' hch' s' a'
      have hps' := t_psW (L' := L') hW' hS' hD' (by omega)
      have h133 : ∀ (I1' : p_I) (r1' il' : Nat), (∀ c', c' ≠ 63 → c' ≠ 64 → c' ≠ 65 → c' ≠ p_sc X' → (c' ≤ 74 + 2 * k' ∨ 83 ≤ c' ∨ c' % 2 = 1) → I1' c' = I' c') → il' ≤ a' → ∃ J', J_X2_partsFed_133 (R_X2_partsFed fu') 67 (Int32.ofNat k') (Int32.ofNat g') (Int32.ofNat n') (Int32.ofNat ch') (Int64.ofNat a') (75 + 2 * k') (Int64.ofNat r1') (Int64.ofNat il') (I1', X') = some (Int64.ofNat (r1' + yq_od H' L' g' ch' m' (t_ps H' L' s') (a' - il')), (J', X')) ∧ (∀ c', c' ≠ 63 → c' ≠ 64 → c' ≠ 65 → c' ≠ p_sc X' → (c' ≤ 74 + 2 * k' ∨ 83 ≤ c' ∨ c' % 2 = 1) → J' c' = I' c') := by
        intro I1' r1' il' f1' hil'
        obtain ⟨K', k1', k2', k3'⟩ := s_copyFrom (I' := I1') (k1' := 75 + 2 * k') (k2' := 73 + 2 * k') hB' hq' hq0'
        have k3'' : ∀ j', j' < 31 → K' (75 + 2 * k' + 1) j' = s' j' := fun j' hj' => by
          rw [k3' j' hj', show 73 + 2 * k' + 1 = 74 + 2 * k' by omega, f1' (74 + 2 * k') (by omega) (by omega) (by omega) (by omega) (by omega)]
          exact hrow j' hj'
        have f2' : ∀ c', c' ≠ 63 → c' ≠ 64 → c' ≠ 65 → c' ≠ p_sc X' → (c' ≤ 74 + 2 * k' ∨ 83 ≤ c' ∨ c' % 2 = 1) → K' c' = I' c' := fun c' z1' z2' z3' z4' z5' => by rw [k2' c' (by omega)]; exact f1' c' z1' z2' z3' z4' z5'
        obtain ⟨K2', a1', a2', a3', a4'⟩ := s_pass (I' := K') (k' := 75 + 2 * k') (L' := L') hB' (t_HIk hH' (fun c' h1' h2' => f2' c' (by omega) (by omega) (by omega) (by omega) (by omega))) hW' hq' (t_WFa hS' k3'') (t_LCk hL' (fun c' h1' h2' => f2' c' (by omega) (by omega) (by omega) h2' (by omega)))
        have f3' : ∀ c', c' ≠ 63 → c' ≠ 64 → c' ≠ 65 → c' ≠ p_sc X' → (c' ≤ 74 + 2 * k' ∨ 83 ≤ c' ∨ c' % 2 = 1) → K2' c' = I' c' := fun c' z1' z2' z3' z4' z5' => by rw [a2' c' z1' z2' z3' z4' (by omega)]; exact f2' c' z1' z2' z3' z4' z5'
        have hrow2 : ∀ j', j' < 31 → K2' (74 + 2 * (k' + 1)) j' = t_ps H' L' s' j' := fun j' hj' => by
          rw [show 74 + 2 * (k' + 1) = 75 + 2 * k' + 1 by omega, a4']
          exact t_psC hng' k3'' j' hj'
        obtain ⟨J', b1', b2'⟩ := ih' (k' + 1) fu' K2' (t_ps H' L' s') (a' - il') (D' + 1) (by omega) (by omega) (t_HIk hH' (fun c' h1' h2' => f3' c' (by omega) (by omega) (by omega) (by omega) (by omega))) (t_LCk hL' (fun c' h1' h2' => f3' c' (by omega) (by omega) (by omega) h2' (by omega))) hrow2 hps'.1 hps'.2 (by omega) (by omega)
        refine ⟨J', ?_, fun c' z1' z2' z3' z4' z5' => by rw [b2' c' z1' z2' z3' z4' (by omega)]; exact f3' c' z1' z2' z3' z4' z5'⟩
        unfold J_X2_partsFed_133
        simp (disch := omega) only [↓ce_67 hB', rf_67 hB', ↓ce_70 hB', rf_70 hB', ↓ce_63 hB', rf_63 hB', ↓nn_40, ↓nn_64, ↓nn_65, ↓nn_66, ↓nn_67, ↓nn_69, ↓nn_71, ↓nn_72, ↓nn_73, ↓nn_74, ↓nn_76, ↓nn_78, ↓nn_80, ↓nn_82, p_bs, p_rq0, p_rq1, p_rz0, p_rz1, p_us, p_un, p_uj, ↓reduceIte, hr0', p_nns, p_st hq' hB', k1', a1', hk1', p_s64 a' il' hil', b1']
        rw [Int64.ofNat_add]
      obtain ⟨K', k1', k2', k3'⟩ := s_copyFrom (I' := I') (k1' := 75 + 2 * k') (k2' := 73 + 2 * k') hB' hq' hq0'
      have k3'' : ∀ j', j' < 31 → K' (75 + 2 * k' + 1) j' = s' j' := fun j' hj' => by
        rw [k3' j' hj', show 73 + 2 * k' + 1 = 74 + 2 * k' by omega]
        exact hrow j' hj'
      have f2' : ∀ c', c' ≠ 63 → c' ≠ 64 → c' ≠ 65 → c' ≠ p_sc X' → (c' ≤ 74 + 2 * k' ∨ 83 ≤ c' ∨ c' % 2 = 1) → K' c' = I' c' := fun c' z1' z2' z3' z4' z5' => k2' c' (by omega)
      obtain ⟨K1', c1', c2', c3', c4', c5'⟩ := s_carry (I' := K') (k' := 75 + 2 * k') (L' := L') hB' (t_HIk hH' (fun c' h1' h2' => f2' c' (by omega) (by omega) (by omega) (by omega) (by omega))) hW' hq' (t_WFa hS' k3'') (t_LCk hL' (fun c' h1' h2' => f2' c' (by omega) (by omega) (by omega) h2' (by omega))) 2 (by omega) (-1) (-1)
      have c1'' : F_X0_carryOut 66 (75 + 2 * k') 2 (-1) (-1) (K', X') = _ := c1'
      have hcs' : t_can H' (K' (75 + 2 * k' + 1)) 2 (-1) (-1) = t_can H' s' 2 (-1) (-1) := by
        show decide (K' (75 + 2 * k' + 1) 1 < 3) = decide (s' 1 < 3)
        rw [k3'' 1 (by omega)]
      rw [hcs'] at c1'' c3' c4'
      have f3' : ∀ c', c' ≠ 63 → c' ≠ 64 → c' ≠ 65 → c' ≠ p_sc X' → (c' ≤ 74 + 2 * k' ∨ 83 ≤ c' ∨ c' % 2 = 1) → K1' c' = I' c' := fun c' z1' z2' z3' z4' z5' => by rw [c2' c' z1' z2' z3' z4' (by omega)]; exact f2' c' z1' z2' z3' z4' z5'
      cases hcan : t_can H' s' 2 (-1) (-1)
      · obtain ⟨J', b1', b2'⟩ := h133 K1' 0 0 f3' (by omega)
        have b1'' : J_X2_partsFed_133 (R_X2_partsFed fu') 67 (Int32.ofNat k') (Int32.ofNat g') (Int32.ofNat n') (Int32.ofNat ch') (Int64.ofNat a') (75 + 2 * k') 0 0 (K1', X') = _ := b1'
        refine ⟨J', ?_, b2'⟩
        rw [hcan] at c1''
        unfold F_X2_partsFed
        simp only [ha0', hz', hkn'', hk1', hk5', ↓reduceIte]
        simp (disch := omega) only [↓ce_67 hB', rf_67 hB', ↓ce_70 hB', rf_70 hB', ↓ce_66 hB', rf_66 hB', ↓nn_40, ↓nn_64, ↓nn_67, ↓nn_69, ↓nn_71, ↓nn_72, ↓nn_73, ↓nn_74, ↓nn_76, ↓nn_78, ↓nn_80, ↓nn_82, p_bs, p_rq0, p_rq1, p_rz0, p_rz1, p_us, p_un, p_uj, ↓reduceIte, hr0', hr1', p_nns, p_st hq' hB', k1', c1'', t_b0, b1'']
        rw [yq_od, yq_il, hcan, if_neg (by decide), yq_od0, Nat.zero_add, Nat.add_zero]
      · rw [hcan] at c1''
        have hil2' : yq_il H' ch' s' a' = a' * ch' / 100 := by unfold yq_il; rw [if_pos hcan]
        have eK1' : ∀ j', j' < 31 → K1' (75 + 2 * k' + 1) j' = va_up s' 1 (s' 1 + 1) j' := fun j' hj' => by
          rw [c3' hcan]
          show va_up (K' (75 + 2 * k' + 1)) 1 (K' (75 + 2 * k' + 1) 1 + 1) j' = _
          exact t_vaC (k3'' j' hj') (by rw [k3'' 1 (by omega)])
        have hSi' := yq_illW hS' hcan
        obtain ⟨K2', a1', a2', a3', a4'⟩ := s_pass (I' := K1') (k' := 75 + 2 * k') (L' := L') hB' (t_HIk hH' (fun c' h1' h2' => f3' c' (by omega) (by omega) (by omega) (by omega) (by omega))) hW' hq' (t_WFa hSi' eK1') (t_LCk hL' (fun c' h1' h2' => f3' c' (by omega) (by omega) (by omega) h2' (by omega)))
        have f4' : ∀ c', c' ≠ 63 → c' ≠ 64 → c' ≠ 65 → c' ≠ p_sc X' → (c' ≤ 74 + 2 * k' ∨ 83 ≤ c' ∨ c' % 2 = 1) → K2' c' = I' c' := fun c' z1' z2' z3' z4' z5' => by rw [a2' c' z1' z2' z3' z4' (by omega)]; exact f3' c' z1' z2' z3' z4' z5'
        have hrow2 : ∀ j', j' < 31 → K2' (74 + 2 * (k' + 1)) j' = t_ps H' L' (va_up s' 1 (s' 1 + 1)) j' := fun j' hj' => by
          rw [show 74 + 2 * (k' + 1) = 75 + 2 * k' + 1 by omega, a4']
          exact t_psC hng' eK1' j' hj'
        have hpsi := t_psW (L' := L') hW' hSi' (D' := D') (by rw [p_vn _ _ _ _ (by omega)]; exact hD') (by omega)
        rw [hil2'] at hil'
        obtain ⟨K3', d1', d2'⟩ := ih' (k' + 1) fu' K2' (t_ps H' L' (va_up s' 1 (s' 1 + 1))) (a' * ch' / 100) (D' + 1) (by omega) (by omega) (t_HIk hH' (fun c' h1' h2' => f4' c' (by omega) (by omega) (by omega) (by omega) (by omega))) (t_LCk hL' (fun c' h1' h2' => f4' c' (by omega) (by omega) (by omega) h2' (by omega))) hrow2 hpsi.1 hpsi.2 (by omega) (by omega)
        obtain ⟨J', b1', b2'⟩ := h133 K3' (yq_od H' L' g' ch' m' (t_ps H' L' (va_up s' 1 (s' 1 + 1))) (a' * ch' / 100)) (a' * ch' / 100) (fun c' z1' z2' z3' z4' z5' => by rw [d2' c' z1' z2' z3' z4' (by omega)]; exact f4' c' z1' z2' z3' z4' z5') hil'
        have hach : a' * ch' ≤ 1000000000 * 100 := Nat.mul_le_mul ha' hch'
        have e1' : ∀ f' : Int64 → Option (Int64 × q_Mem), q_dvl (Int64.ofNat a' * (Int32.ofNat ch').toInt64) 100 f' = f' (Int64.ofNat (a' * ch' / 100)) := fun f' => by
          unfold q_dvl
          rw [if_neg (by decide), p_o64 ch' (by omega), ← Int64.ofNat_mul, show (100 : Int64) = Int64.ofNat 100 from rfl, p_d64 _ 100 (by omega) (by decide)]
        refine ⟨J', ?_, b2'⟩
        unfold F_X2_partsFed
        simp only [ha0', hz', hkn'', hk1', hk5', ↓reduceIte]
        simp (disch := omega) only [↓ce_67 hB', rf_67 hB', ↓ce_70 hB', rf_70 hB', ↓ce_66 hB', rf_66 hB', ↓nn_40, ↓nn_64, ↓nn_67, ↓nn_69, ↓nn_71, ↓nn_72, ↓nn_73, ↓nn_74, ↓nn_76, ↓nn_78, ↓nn_80, ↓nn_82, p_bs, p_rq0, p_rq1, p_rz0, p_rz1, p_us, p_un, p_uj, ↓reduceIte, hr0', hr1', p_nns, p_st hq' hB', k1', c1'', t_b0, Bool.true_eq_false, e1']
        simp (disch := omega) only [↓ce_67 hB', rf_67 hB', ↓ce_63 hB', rf_63 hB', ↓nn_40, ↓nn_64, ↓nn_65, ↓nn_66, ↓nn_67, ↓nn_69, ↓nn_71, ↓nn_72, ↓nn_73, p_bs, p_rq0, p_rq1, p_rz0, p_rz1, p_us, p_un, p_uj, ↓reduceIte, a1', d1', b1']
        rw [yq_od, hil2', Nat.add_comm]
end PO'
