/-! draws -/
def p_L (X' : p_X) (k' j' : Nat) (v' : Int64) : p_X := (q_u2 X'.1 k' j' v', X'.2)
theorem p_BL {X' : p_X} (hB' : p_B X') (k' j' : Nat) (v' : Int64) : p_B (p_L X' k' j' v') := hB'
theorem p_LT (X' : p_X) (u' k' j' : Nat) (v' : Int64) : p_L (p_T X' u') k' j' v' = p_T (p_L X' k' j' v') u' := rfl
theorem p_Lv (X' : p_X) (k' j' : Nat) (v' : Int64) : (p_L X' k' j' v').1 k' j' = v' := by simp [p_L, q_u2, va_up]
theorem p_LL (X' : p_X) (k' j' : Nat) (v' w' : Int64) : p_L (p_L X' k' j' v') k' j' w' = p_L X' k' j' w' := by
  unfold p_L
  refine Prod.ext ?_ rfl
  funext a' b'
  simp only [q_u2]
  unfold va_up
  by_cases h1' : a' = k' <;> by_cases h2' : b' = j' <;> simp [h1', h2']
def yq_dx (x' : Int64) : Int64 := x' * 6364136223846793005 + 1442695040888963407
def yq_dz (x' : Int64) : Int64 := (x'.toUInt64 >>> ((33 : Int32).toInt64.toUInt64 &&& Int64.toUInt64 63)).toInt64
def yq_dv (x' : Int64) (j' : Int32) : Int32 := (yq_dz x' - yq_dz x' / j'.toInt64 * j'.toInt64).toInt32
theorem yq_dzN (x' : Int64) : ∃ a', a' < 2147483648 ∧ yq_dz x' = Int64.ofNat a' := by
  unfold yq_dz
  generalize x'.toUInt64 = w'
  have e' : ((33 : Int32).toInt64.toUInt64 &&& Int64.toUInt64 63) = 33 := by decide
  rw [e']
  refine ⟨(w' >>> 33).toNat, ?_, ?_⟩
  · rw [UInt64.toNat_shiftRight]
    have h' := UInt64.toNat_lt w'
    have e2' : (33 : UInt64).toNat % 64 = 33 := by decide
    rw [e2', Nat.shiftRight_eq_div_pow]
    omega
  · have h2' : UInt64.ofNat (w' >>> 33).toNat = w' >>> 33 := UInt64.ofNat_toNat
    have h3' : (UInt64.ofNat (w' >>> 33).toNat).toInt64 = Int64.ofNat (w' >>> 33).toNat := UInt64.toInt64_ofNat'
    rw [h2'] at h3'
    exact h3'
theorem yq_dvN (x' : Int64) {n' : Nat} (hn' : 0 < n') (hn'' : n' ≤ 10) : ∃ k', k' < n' ∧ yq_dv x' (Int32.ofNat n') = Int32.ofNat k' := by
  obtain ⟨a', ha', hz'⟩ := yq_dzN x'
  have hj' : (Int32.ofNat n').toInt64 = Int64.ofNat n' := Int32.toInt64_ofNat' (by
    have : Int32.maxValue.toInt = 2147483647 := rfl
    omega)
  refine ⟨a' % n', Nat.mod_lt _ hn', ?_⟩
  unfold yq_dv
  rw [hz', hj']
  have e1' : Int64.ofNat a' / Int64.ofNat n' = Int64.ofNat (a' / n') := by
    apply Int64.toInt_inj.mp
    rw [Int64.toInt_div_of_ne_left]
    · rw [Int64.toInt_ofNat_of_lt (by omega), Int64.toInt_ofNat_of_lt (by omega), Int64.toInt_ofNat_of_lt (Nat.lt_of_le_of_lt (Nat.div_le_self _ _) (by omega))]
      rfl
    · intro e'
      have := congrArg Int64.toInt e'
      rw [Int64.toInt_ofNat_of_lt (by omega)] at this
      have h1' : Int64.minValue.toInt = -9223372036854775808 := rfl
      omega
  have e2' : Int64.ofNat a' = Int64.ofNat (a' / n' * n') + Int64.ofNat (a' % n') := by
    rw [← Int64.ofNat_add, Nat.mul_comm, Nat.div_add_mod]
  rw [e1', ← Int64.ofNat_mul]
  rw [e2', Int64.add_comm, Int64.add_sub_cancel]
  exact Int64.toInt32_ofNat'
theorem yq_n0 {n' : Nat} (hn' : 0 < n') (hn'' : n' ≤ 10) : ((Int32.ofNat n').toInt64 = 0) = False := by
  apply eq_false
  intro e'
  have hj' : (Int32.ofNat n').toInt64 = Int64.ofNat n' := Int32.toInt64_ofNat' (by
    have : Int32.maxValue.toInt = 2147483647 := rfl
    omega)
  rw [hj'] at e'
  have := congrArg Int64.toInt e'
  rw [Int64.toInt_ofNat_of_lt (by omega)] at this
  have h0' : (0 : Int64).toInt = 0 := rfl
  omega
section PD'
variable {X' : p_X} {I' : p_I}
theorem s_drawC (hB' : p_B X') {n' : Nat} (hn' : 0 < n') (hn'' : n' ≤ 10) : F_X11_draw 36 (Int32.ofNat n') (I', X') = some (yq_dv (yq_dx (X'.1 36 19)) (Int32.ofNat n'), (I', p_L X' 36 19 (yq_dx (X'.1 36 19)))) := by
  have h0' : (0 < Int32.ofNat n') = True := by
    rw [show (0 : Int32) = Int32.ofNat 0 from rfl, p_lt 0 n' (by omega) (by omega)]
    exact eq_true hn'
  have e' : ∀ f' : q_Mem → Option (Int32 × q_Mem), q_pL (I', X') 36 11 19 (X'.1 36 19 * 6364136223846793005 + 1442695040888963407) f' = f' (I', p_L X' 36 19 (yq_dx (X'.1 36 19))) := fun f' => by
    unfold p_L yq_dx
    exact p_pL (sh_36 hB') (by decide) I' 19 _ f'
  have hB1' := p_BL hB' 36 19 (yq_dx (X'.1 36 19))
  unfold F_X11_draw q_rml
  rw [p_gL (sh_36 hB'), e']
  simp only [h0', ↓reduceIte]
  rw [p_gL (sh_36 hB1'), p_Lv]
  simp only [yq_n0 hn' hn'', ↓reduceIte]
  unfold yq_dv yq_dz
  rfl
theorem s_drawM (hB' : p_B X') {n' : Nat} (hn' : 0 < n') (hn'' : n' ≤ 10) : F_X12_draw 87 (Int32.ofNat n') (I', X') = some (yq_dv (yq_dx (X'.1 87 43)) (Int32.ofNat n'), (I', p_L X' 87 43 (yq_dx (X'.1 87 43)))) := by
  have e' : ∀ f' : q_Mem → Option (Int32 × q_Mem), q_pL (I', X') 87 12 43 (X'.1 87 43 * 6364136223846793005 + 1442695040888963407) f' = f' (I', p_L X' 87 43 (yq_dx (X'.1 87 43))) := fun f' => by
    unfold p_L yq_dx
    exact p_pL (sh_87 hB') (by decide) I' 43 _ f'
  have hB1' := p_BL hB' 87 43 (yq_dx (X'.1 87 43))
  unfold F_X12_draw q_rml
  rw [p_gL (sh_87 hB'), e']
  simp only
  rw [p_gL (sh_87 hB1'), p_Lv]
  simp only [yq_n0 hn' hn'', ↓reduceIte]
  unfold yq_dv yq_dz
  rfl
end PD'
/-- draws, whatever they are -/
def yq_HC (dx' : Int64 → Int64) (dv' : Int64 → Int32 → Int32) : Prop := ∀ (X' : p_X) (I' : p_I) (n' : Nat), p_B X' → 0 < n' → n' ≤ 10 → F_X11_draw 36 (Int32.ofNat n') (I', X') = some (dv' (dx' (X'.1 36 19)) (Int32.ofNat n'), (I', p_L X' 36 19 (dx' (X'.1 36 19))))
def yq_HM (dx' : Int64 → Int64) (dv' : Int64 → Int32 → Int32) : Prop := ∀ (X' : p_X) (I' : p_I) (n' : Nat), p_B X' → 0 < n' → n' ≤ 10 → F_X12_draw 87 (Int32.ofNat n') (I', X') = some (dv' (dx' (X'.1 87 43)) (Int32.ofNat n'), (I', p_L X' 87 43 (dx' (X'.1 87 43))))
def yq_HN (dv' : Int64 → Int32 → Int32) : Prop := ∀ (x' : Int64) (n' : Nat), 0 < n' → n' ≤ 10 → ∃ k', k' < n' ∧ dv' x' (Int32.ofNat n') = Int32.ofNat k'
theorem yq_draws : ∃ dx' dv', yq_HC dx' dv' ∧ yq_HM dx' dv' ∧ yq_HN dv' := ⟨yq_dx, yq_dv, fun X' I' n' hB' h1' h2' => s_drawC hB' h1' h2', fun X' I' n' hB' h1' h2' => s_drawM hB' h1' h2', fun x' n' h1' h2' => yq_dvN x' h1' h2'⟩
theorem p_scL (X' : p_X) (k' j' : Nat) (v' : Int64) : p_sc (p_L X' k' j' v') = p_sc X' := rfl
theorem t_LCX {L' : t_L} {X' : p_X} {I' : p_I} (h' : ∀ x', t_LC L' (x', X'.2) I') (k' j' : Nat) (v' : Int64) : t_LC L' (p_L X' k' j' v') I' := h' _
theorem t_LMX {L' : t_L} {X' : p_X} {I' : p_I} (h' : ∀ x', t_LM L' (x', X'.2) I') (k' j' : Nat) (v' : Int64) : t_LM L' (p_L X' k' j' v') I' := h' _
theorem v_VX {A' : v_A} {X' : p_X} {I' : p_I} (h' : v_V A' I' X') (k' j' : Nat) (v' : Int64) : v_V A' I' (p_L X' k' j' v') := h'
/-- the law that holds, whatever the draws -/
theorem v_lawX {A' : v_A} {I' : p_I} {X' : p_X} (h' : v_V A' I' X') : ∃ L', ∀ x', t_LC L' (x', X'.2) I' ∧ t_LM L' (x', X'.2) I' := by
  obtain ⟨hB', hS', hT', hH', hN', hP', hG', hC', hL', hLH', hW', hD', hF'⟩ := h'
  rcases hLH' with ⟨h1', h2', h3'⟩ | ⟨i', hi', h1', h2', h3'⟩
  · exact ⟨none, fun x' => ⟨h3', h2'⟩⟩
  · obtain ⟨β, n', cls', b1', b2', b3', b4', b5', b6', b7', b8', b9'⟩ := hL'.2.2.2 i' hi'
    have hlc' := hL'.1
    refine ⟨some (fun ρ => t_lval (t_6 ρ) cls'), fun x' => ?_⟩
    have hBx' : p_B (x', X'.2) := hB'
    have b2x : t_LO (A'.2.2.2.2.1 i') (t_lcode cls').length (x', X'.2) := b2'
    refine ⟨?_, ?_⟩
    · refine ⟨A'.2.2.2.2.1 i', h3', b2'.2.2.2.2.2.1, b2'.1, fun J' ρ hρ e1' e2' e3' => ?_⟩
      exact s_worth hBx' b2x b4' (t_6b hρ) (by rw [e2']; exact b3') (fun j' hj' => by unfold t_6; rw [if_pos hj']; exact e3' j' hj')
    · refine ⟨i', h2', by omega, fun u' J' ρ hρ hSJ' e1' e2' e3' => ?_⟩
      obtain ⟨J'', g1', g2', g3', g4'⟩ := s_goThrough (β := β) (n' := n') (I' := J') (tc' := 89) (bg' := 240 * i') (p_BT hBx' u') hSJ' (.inr ⟨rfl, by omega⟩) b6' (by rw [e1']; exact b8') b7'
      have hrh' : t_rh J' = t_6 ρ := by
        funext k'
        unfold t_rh t_6
        by_cases hk' : k' < 6
        · rw [if_pos hk', if_pos hk']
          obtain ⟨z1', z2', z3', z4', z5', z6'⟩ := e3'
          match k', hk' with
          | 0, _ => exact z1'
          | 1, _ => exact z2'
          | 2, _ => exact z3'
          | 3, _ => exact z4'
          | 4, _ => exact z5'
          | 5, _ => exact z6'
        · rw [if_neg hk', if_neg hk']
      rw [b9']
      rw [p_TT] at g1'
      refine ⟨J'', 90, g1', ?_, g2', g3'⟩
      rcases g4' with ⟨x', q1', -⟩ | ⟨cls'', q1', -, q3'⟩
      · rw [b5'] at q1'; cases q1'
      · rw [b5'] at q1'
        cases q1'
        rw [hrh'] at q3'
        exact q3' (t_6b hρ)
