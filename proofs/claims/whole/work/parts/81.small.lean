/-! small methods -/
def t_inr (l' : Int32) (k' : Nat) : Bool := !decide (l' < 0) && decide (l' < Int32.ofNat k')
theorem t_inrE {l' : Int32} {k' : Nat} (hk' : k' < 2147483648) (h' : t_inr l' k' = true) : ∃ i', i' < k' ∧ l' = Int32.ofNat i' := by
  unfold t_inr at h'
  simp only [Bool.and_eq_true, Bool.not_eq_true', decide_eq_false_iff_not, decide_eq_true_eq] at h'
  obtain ⟨h1', h2'⟩ := h'
  have e0' : (0 : Int32).toInt = 0 := rfl
  rw [Int32.lt_iff_toInt_lt, e0'] at h1'
  rw [Int32.lt_iff_toInt_lt, p_toI k' hk'] at h2'
  refine ⟨l'.toInt.toNat, by omega, ?_⟩
  apply Int32.toInt_inj.mp
  rw [p_toI _ (by omega)]
  omega
theorem t_inrN (i' k' : Nat) (hi' : i' < 2147483648) (hk' : k' < 2147483648) : t_inr (Int32.ofNat i') k' = decide (i' < k') := by
  unfold t_inr
  have h1' : ¬ Int32.ofNat i' < 0 := p_nn i' hi'
  simp only [h1', decide_false, Bool.not_false, Bool.true_and, p_lt i' k' hi' hk']
theorem t_ifr {α : Type} (l' c' : Int32) (k' : Nat) (h' : c' = Int32.ofNat k') (a' b' : α) : (if l' < 0 then a' else if l' < c' then b' else a') = if t_inr l' k' = true then b' else a' := by
  subst h'
  unfold t_inr
  by_cases h1' : l' < 0
  · simp [h1']
  · by_cases h2' : l' < Int32.ofNat k' <;> simp [h1', h2']
theorem t_inr0 (l' : Int32) : t_inr l' 0 = false := by
  unfold t_inr
  by_cases h' : l' < 0
  · simp [h']
  · have : ¬ l' < Int32.ofNat 0 := h'
    simp [this]
theorem s_isInT (l' : Int32) (k' : Nat) (hk' : k' + 1 < 2147483648) (lo' hi' : Int64) (hl' : lo' = (0 : Int32).toInt64) (he' : hi' = (Int32.ofNat k').toInt64) (M' : q_Mem) : F_X12_isIn l'.toInt64 lo' hi' M' = some (t_b (t_inr l' (k' + 1))) := by
  subst he'
  subst hl'
  rw [s_isIn3]
  congr 2
  unfold t_inr
  have e0' : (0 : Int32).toInt = 0 := rfl
  rw [Bool.eq_iff_iff]
  simp only [Bool.and_eq_true, decide_eq_true_eq, Bool.not_eq_true', decide_eq_false_iff_not, Int32.le_iff_toInt_le, Int32.lt_iff_toInt_lt, e0', p_toI k' (by omega), p_toI (k' + 1) hk']
  omega
theorem s_isInM (l' : Int32) (k' : Nat) (hk' : k' < 2147483648) (lo' hi' : Int64) (hl' : lo' = (0 : Int32).toInt64) (he' : hi' = (Int32.ofNat k' - 1).toInt64) (M' : q_Mem) : F_X12_isIn l'.toInt64 lo' hi' M' = some (t_b (t_inr l' k')) := by
  cases k' with
  | zero =>
    subst he'
    subst hl'
    rw [s_isIn3, t_inr0]
    congr 2
    have e0' : (0 : Int32).toInt = 0 := rfl
    have e1' : (Int32.ofNat 0 - 1).toInt = -1 := by decide
    rw [Bool.eq_false_iff]
    intro h'
    simp only [Bool.and_eq_true, decide_eq_true_eq, Int32.le_iff_toInt_le, e0', e1'] at h'
    omega
  | succ k' => exact s_isInT l' k' hk' lo' hi' hl' (by rw [he', p_sub1']) M'
theorem t_qb (b' : Bool) : (if b' = true then q_rq (1 : Int32) else q_rq (0 : Int32)) = some (t_b b') := by cases b' <;> rfl
section PS'
variable {X' : p_X} {I' : p_I} {H' : t_H}
theorem s_hasDish (hB' : p_B X') (hH' : t_HI H' I') (l' : Int32) : F_X3_hasDish 39 l' (I', X') = some (t_b (t_inr l' (t_nd H'))) := by
  unfold F_X3_hasDish
  simp (disch := omega) only [↓ce_39 hB', rf_39 hB', ↓nn_41, ↓nn_42, ↓nn_43, ↓nn_44, p_bs, p_rq0, p_rq1, p_rz0, p_rz1, p_us, p_un, p_uj, ↓reduceIte, hH'.2.2.2.2.1]
  simp only [← p_rq0, ← p_rq1]
  rw [t_ifr l' _ (t_nd H') rfl, t_qb]
theorem s_hasGuest (hB' : p_B X') (hH' : t_HI H' I') (l' : Int32) : F_X3_hasGuest 39 l' (I', X') = some (t_b (t_inr l' (t_ng H'))) := by
  unfold F_X3_hasGuest
  simp (disch := omega) only [↓ce_39 hB', rf_39 hB', ↓nn_41, ↓nn_42, ↓nn_43, ↓nn_44, p_bs, p_rq0, p_rq1, p_rz0, p_rz1, p_us, p_un, p_uj, ↓reduceIte, hH'.2.2.2.2.2.1]
  simp only [← p_rq0, ← p_rq1]
  rw [t_ifr l' _ (t_ng H') rfl, t_qb]
theorem s_isDish (hB' : p_B X') (hM' : t_HM H' I') (l' : Int32) : F_X12_isDish 87 l' (I', X') = some (t_b (t_inr l' (t_nd H'))) := by
  unfold F_X12_isDish
  simp (disch := omega) only [↓ce_87 hB', rf_87 hB', ↓nn_31, ↓nn_33, ↓nn_89, ↓nn_90, ↓nn_91, ↓nn_92, ↓nn_93, ↓nn_94, ↓nn_95, ↓nn_96, ↓nn_97, ↓nn_98, ↓nn_99, ↓nn_100, ↓nn_101, ↓nn_102, ↓nn_103, ↓nn_104, ↓nn_105, ↓nn_106, ↓nn_107, ↓nn_108, p_bs, p_rq0, p_rq1, p_rz0, p_rz1, p_us, p_un, p_uj, ↓reduceIte, hM'.2.2.2.1]
  simp only [← p_rq0, ← p_rq1]
  rw [t_ifr l' _ (t_nd H') rfl, t_qb]
theorem s_isGuest (hB' : p_B X') (hM' : t_HM H' I') (l' : Int32) : F_X12_isGuest 87 l' (I', X') = some (t_b (t_inr l' (t_ng H'))) := by
  unfold F_X12_isGuest
  simp (disch := omega) only [↓ce_87 hB', rf_87 hB', ↓nn_31, ↓nn_33, ↓nn_89, ↓nn_90, ↓nn_91, ↓nn_92, ↓nn_93, ↓nn_94, ↓nn_95, ↓nn_96, ↓nn_97, ↓nn_98, ↓nn_99, ↓nn_100, ↓nn_101, ↓nn_102, ↓nn_103, ↓nn_104, ↓nn_105, ↓nn_106, ↓nn_107, ↓nn_108, p_bs, p_rq0, p_rq1, p_rz0, p_rz1, p_us, p_un, p_uj, ↓reduceIte, hM'.2.2.2.2]
  simp only [← p_rq0, ← p_rq1]
  rw [t_ifr l' _ (t_ng H') rfl, t_qb]
theorem s_joyOfAll (hB' : p_B X') {k' : Nat} (hk' : t_SK k') : F_X8_joyOfAll k' (I', X') = some (t_sm (I' (k' + 1)) 6) := by
  unfold F_X8_joyOfAll
  rw [p_for (fun z' => B_X8_joyOfAll_4 k' z'.1 z'.2 (I', X')) 6 (fun i' => (t_sm (I' (k' + 1)) i', Int32.ofNat i')) (t_sm (I' (k' + 1)) 6) (by unfold q_fu; omega) (fun i' hi' => by
    simp only
    unfold B_X8_joyOfAll_4
    simp (disch := omega) only [p_bs, p_rq0, p_rq1, p_rz0, p_rz1, p_us, p_un, p_uj, ↓reduceIte, p_st hk' hB', p_cm, hi', p_ar]
    rfl) (by
    simp only
    unfold B_X8_joyOfAll_4
    simp (disch := omega) only [p_bs, p_rq0, p_rq1, p_rz0, p_rz1, p_us, p_un, p_uj, ↓reduceIte, p_cm, Nat.lt_irrefl]) ((0 : Int32), (0 : Int32)) rfl]
  rfl
end PS'
theorem t_SCj {X' : p_X} {I' J' : p_I} (h' : t_SC X' I' J') (j' : Nat) (v' : Int32) (hj' : j' = 0 ∨ (8 ≤ j' ∧ j' ≤ 14) ∨ j' = 17 ∨ (37 ≤ j' ∧ j' ≤ 40) ∨ j' = 28 ∨ j' = 29 ∨ j' = 31) : t_SC X' I' (q_u2 J' 87 j' v') := by
  obtain ⟨a1', a2', a3', a4', a5', a6'⟩ := h'
  refine ⟨fun c' h1' h2' => ?_, ?_, fun j'' h1' h2' h3' h4' h5' h6' h7' => ?_, fun j'' h1' => ?_, fun j'' h1' => ?_, fun c' h1' h2' h3' h4' => ?_⟩
  · rw [p_uc _ _ _ _ _ (by omega)]; exact a1' c' h1' h2'
  · rw [p_un _ _ _ _ _ _ (by decide)]; exact a2'
  · rw [p_uj _ _ _ _ _ (by omega)]; exact a3' j'' h1' h2' h3' h4' h5' h6' h7'
  · rw [p_un _ _ _ _ _ _ (by decide)]; exact a4' j'' h1'
  · rw [p_un _ _ _ _ _ _ (by decide)]; exact a5' j'' h1'
  · rw [p_uc _ _ _ _ _ (by omega)]; exact a6' c' h1' h2' h3' h4'
theorem v_keep0 {A' : v_A} {I' J' : p_I} {X' : p_X} (h' : v_V A' I' X') (hs' : t_SC X' I' J') : v_V A' J' X' := by
  have := v_keep h' hs' (X'.2.1 87 5)
  rw [p_Ts] at this
  exact this
theorem v_thr {A' : v_A} {I' : p_I} {X' : p_X} (h' : v_V A' I' X') : v_V A' (q_u2 I' 87 0 0) X' := v_keep0 h' (t_SCj (t_SCr X' I') 0 0 (by omega))
theorem t_b1 (b' : Bool) : (t_b b' = 1) = (b' = true) := by cases b' <;> simp [t_b]
section PS'
variable {A' : v_A} {X' : p_X} {I' : p_I}
theorem m_rule (h' : v_V A' I' X') (l' : Int32) : ∃ r' J', F_X11_rule 36 l' (I', X') = some r' ∧ F_X12_rule 87 l' (I', X') = some (r', (J', X')) ∧ v_V A' J' X' := by
  have hv' := v_thr h'
  obtain ⟨hB', hS', hT', hH', hN', hP', hG', hC', hL', hLH', hW', hD', hF'⟩ := id h'
  obtain ⟨H', hz', D', lc', lwf', wc', wkf'⟩ := A'
  obtain ⟨h1', h2', h3', h4', h5'⟩ := hH'
  try simp only at h1' h2' h3' h4' h5' hN'
  have g27' : I' 87 27 = Int32.ofNat (t_ng H') := h3'.2.2.2.2
  have hin' := s_isInT l' 2 (by decide) 0 2 rfl rfl (q_u2 I' 87 0 0, X')
  unfold F_X11_rule F_X12_rule
  cases hz' with
  | false =>
    have h0' := (h5' rfl).2
    rw [h0'] at g27'
    have g27'' : I' 87 27 = 0 := g27'
    simp (disch := omega) only [↓ce_36 hB', rf_36 hB', ↓ce_87 hB', rf_87 hB', ↓nn_31, ↓nn_33, ↓nn_38, ↓nn_40, ↓nn_45, ↓nn_50, ↓nn_52, ↓nn_53, ↓nn_54, ↓nn_56, ↓nn_58, ↓nn_64, ↓nn_67, ↓nn_68, ↓nn_84, ↓nn_89, ↓nn_90, ↓nn_91, ↓nn_92, ↓nn_93, ↓nn_94, ↓nn_95, ↓nn_96, ↓nn_97, ↓nn_98, ↓nn_99, ↓nn_100, ↓nn_101, ↓nn_102, ↓nn_103, ↓nn_104, ↓nn_105, ↓nn_106, ↓nn_107, ↓nn_108, p_bs, p_rq0, p_rq1, p_rz0, p_rz1, p_us, p_un, p_uj, ↓reduceIte, h1', t_b0, g27'']
    exact ⟨_, _, rfl, rfl, hv'⟩
  | true =>
    have hW' := h4' rfl
    have hng' := hW'.2.2.1
    have hng6' := hW'.2.2.2.1
    have hne' : ¬ t_ng H' = 0 := by omega
    obtain ⟨r1', r2', -⟩ := hN'.1 rfl
    have w32' : I' 100 32 = I' 54 1 := r2'.1.2.1
    have w33' : I' 100 33 = I' 54 2 := r2'.2.2
    have c92' : I' 92 1 = t_hr H' 1 := h3'.1 1 (by omega)
    have c40' : I' 40 = t_hr H' := h2'.1
    simp (disch := omega) only [↓ce_36 hB', rf_36 hB', ↓ce_53 hB', rf_53 hB', ↓ce_54 hB', ↓ce_39 hB', rf_39 hB', ↓ce_40 hB', ↓ce_87 hB', rf_87 hB', ↓ce_100 hB', ↓ce_92 hB', ↓nn_31, ↓nn_33, ↓nn_38, ↓nn_40, ↓nn_41, ↓nn_42, ↓nn_43, ↓nn_44, ↓nn_45, ↓nn_50, ↓nn_52, ↓nn_53, ↓nn_54, ↓nn_55, ↓nn_56, ↓nn_58, ↓nn_64, ↓nn_67, ↓nn_68, ↓nn_84, ↓nn_89, ↓nn_90, ↓nn_91, ↓nn_92, ↓nn_93, ↓nn_94, ↓nn_95, ↓nn_96, ↓nn_97, ↓nn_98, ↓nn_99, ↓nn_100, ↓nn_101, ↓nn_102, ↓nn_103, ↓nn_104, ↓nn_105, ↓nn_106, ↓nn_107, ↓nn_108, p_bs, p_rq0, p_rq1, p_rz0, p_rz1, p_us, p_un, p_uj, ↓reduceIte, h1', t_b0, Bool.true_eq_false, g27', p_cm, hne', hin', w32', w33', c92', c40']
    cases hr' : t_inr l' 3
    · have n0' : ¬ l' = 0 := fun e' => by rw [e'] at hr'; revert hr'; decide
      have n1' : ¬ l' = 1 := fun e' => by rw [e'] at hr'; revert hr'; decide
      have n2' : ¬ l' = 2 := fun e' => by rw [e'] at hr'; revert hr'; decide
      simp only [n0', n1', n2', ↓reduceIte]
      exact ⟨_, _, rfl, rfl, hv'⟩
    · obtain ⟨i', hi', rfl⟩ := t_inrE (by decide) hr'
      have hi3' : i' = 0 ∨ i' = 1 ∨ i' = 2 := by omega
      rcases hi3' with rfl | rfl | rfl
      · exact ⟨_, _, rfl, rfl, hv'⟩
      · exact ⟨_, _, rfl, rfl, hv'⟩
      · exact ⟨_, _, rfl, rfl, hv'⟩
theorem m_dish (h' : v_V A' I' X') (l' l2' : Int32) : ∃ r' J', F_X11_dish 36 l' l2' (I', X') = some r' ∧ F_X12_dish 87 l' l2' (I', X') = some (r', (J', X')) ∧ v_V A' J' X' := by
  have hv' := v_thr h'
  obtain ⟨hB', hS', hT', hH', hN', hP', hG', hC', hL', hLH', hW', hD', hF'⟩ := id h'
  obtain ⟨H', hz', D', lc', lwf', wc', wkf'⟩ := A'
  obtain ⟨h1', h2', h3', h4', h5'⟩ := hH'
  try simp only at h1' h2' h3' h4' h5' hN'
  have hnd' : t_nd H' ≤ 5 := h2'.2.2.2.2.2.2.1
  have h3'' : t_HM H' (q_u2 I' 87 0 0) := t_HMk h3' (p_uc _ _ _ _ _ (by decide)) (p_uc _ _ _ _ _ (by decide)) (p_uc _ _ _ _ _ (by decide)) (p_uj _ _ _ _ _ (by decide)) (p_uj _ _ _ _ _ (by decide))
  have hd' := s_hasDish hB' h2' l'
  have hd'' := s_isDish hB' h3'' l'
  have hin' := s_isInT l2' 2 (by decide) 0 2 rfl rfl (q_u2 I' 87 0 0, X')
  unfold F_X11_dish F_X12_dish
  simp (disch := omega) only [↓ce_36 hB', rf_36 hB', ↓ce_39 hB', rf_39 hB', ↓ce_87 hB', rf_87 hB', ↓nn_31, ↓nn_33, ↓nn_38, ↓nn_40, ↓nn_41, ↓nn_42, ↓nn_43, ↓nn_44, ↓nn_45, ↓nn_50, ↓nn_52, ↓nn_53, ↓nn_54, ↓nn_56, ↓nn_58, ↓nn_64, ↓nn_67, ↓nn_68, ↓nn_84, ↓nn_89, ↓nn_90, ↓nn_91, ↓nn_92, ↓nn_93, ↓nn_94, ↓nn_95, ↓nn_96, ↓nn_97, ↓nn_98, ↓nn_99, ↓nn_100, ↓nn_101, ↓nn_102, ↓nn_103, ↓nn_104, ↓nn_105, ↓nn_106, ↓nn_107, ↓nn_108, p_bs, p_rq0, p_rq1, p_rz0, p_rz1, p_us, p_un, p_uj, ↓reduceIte, hd', hd'', t_b0, hin']
  rw [t_ifr l2' 3 3 rfl]
  cases hr' : t_inr l' (t_nd H')
  · simp only [↓reduceIte]
    exact ⟨_, _, rfl, rfl, hv'⟩
  · obtain ⟨i', hi', rfl⟩ := t_inrE (by omega) hr'
    simp only [Bool.true_eq_false, ↓reduceIte]
    cases hr2' : t_inr l2' 3
    · simp only [↓reduceIte, Bool.false_eq_true]
      exact ⟨_, _, rfl, rfl, hv'⟩
    · obtain ⟨w', hw', rfl⟩ := t_inrE (by decide) hr2'
      have ho' := s_ofDish hB' h2' i' w' (by omega) hw'
      have c94' : I' 94 (3 * i' + w') = t_hd H' (3 * i' + w') := h3'.2.1 _ (by omega)
      simp (disch := omega) only [↓ce_39 hB', rf_39 hB', ↓ce_87 hB', rf_87 hB', ↓ce_94 hB', ↓nn_31, ↓nn_33, ↓nn_41, ↓nn_42, ↓nn_43, ↓nn_44, ↓nn_89, ↓nn_90, ↓nn_91, ↓nn_92, ↓nn_93, ↓nn_94, ↓nn_95, ↓nn_96, ↓nn_97, ↓nn_98, ↓nn_99, ↓nn_100, ↓nn_101, ↓nn_102, ↓nn_103, ↓nn_104, ↓nn_105, ↓nn_106, ↓nn_107, ↓nn_108, p_bs, p_rq0, p_rq1, p_rz0, p_rz1, p_us, p_un, p_uj, ↓reduceIte, Bool.true_eq_false, ho', p_ar, c94']
      rw [Nat.mul_comm i' 3]
      exact ⟨_, _, rfl, rfl, hv'⟩
theorem m_fever (h' : v_V A' I' X') (l' : Int32) : ∃ r' I1' J', F_X11_fever 36 l' (I', X') = some (r', (I1', X')) ∧ F_X12_fever 87 l' (I1', X') = some (r', (J', X')) ∧ v_V A' J' X' := by
  have hv' := v_thr h'
  obtain ⟨hB', hS', hT', hH', hN', hP', hG', hC', hL', hLH', hW', hD', f', hf', f1', f2'⟩ := id hv'
  rw [p_uc _ _ _ _ _ (by decide)] at f1'
  rw [p_uj _ _ _ _ _ (by decide)] at f2'
  have hlt9' : ∀ i' : Nat, i' < 2147483648 → (9 < Int32.ofNat i') = (9 < i') := fun i' hi' => p_lt 9 i' (by decide) hi'
  unfold F_X11_fever F_X12_fever
  cases hr' : t_inr l' 10
  · have e1' : (if l' < 0 then q_rz (0 : Int32) (I', X') else if 9 < l' then q_rz (0 : Int32) (I', X') else q_gI (I', X') 36 11 17 fun v1' => if l' = v1' then q_rz (0 : Int32) (I', X') else q_pI (I', X') 36 11 17 l' fun M2' => q_rz (1 : Int32) M2') = some (0, (I', X')) := by
      by_cases hl' : l' < 0
      · simp only [hl', ↓reduceIte, p_rz0]
      · have h9' : 9 < l' := by
          unfold t_inr at hr'
          simp only [hl', decide_false, Bool.not_false, Bool.true_and, decide_eq_false_iff_not] at hr'
          have e9' : (9 : Int32).toInt = 9 := rfl
          have e10' : (Int32.ofNat 10).toInt = 10 := rfl
          rw [Int32.lt_iff_toInt_lt, e10'] at hr'
          rw [Int32.lt_iff_toInt_lt, e9']
          omega
        simp only [hl', h9', ↓reduceIte, p_rz0]
    rw [e1']
    refine ⟨0, I', _, rfl, ?_, hv'⟩
    have hin' := s_isInT l' 9 (by decide) 0 9 rfl rfl (q_u2 I' 87 0 0, X')
    simp (disch := omega) only [↓ce_87 hB', rf_87 hB', ↓nn_31, ↓nn_33, ↓nn_89, ↓nn_90, ↓nn_91, ↓nn_92, ↓nn_93, ↓nn_94, ↓nn_95, ↓nn_96, ↓nn_97, ↓nn_98, ↓nn_99, ↓nn_100, ↓nn_101, ↓nn_102, ↓nn_103, ↓nn_104, ↓nn_105, ↓nn_106, ↓nn_107, ↓nn_108, p_bs, p_rq0, p_rq1, p_rz0, p_rz1, p_us, p_un, p_uj, ↓reduceIte, hin', hr', t_b0]
  · obtain ⟨i', hi', rfl⟩ := t_inrE (by decide) hr'
    have h9' : ¬ 9 < i' := by omega
    simp (disch := omega) only [↓ce_36 hB', rf_36 hB', ↓nn_38, ↓nn_40, ↓nn_45, ↓nn_50, ↓nn_52, ↓nn_53, ↓nn_54, ↓nn_56, ↓nn_58, ↓nn_64, ↓nn_67, ↓nn_68, ↓nn_84, p_bs, p_rq0, p_rq1, p_rz0, p_rz1, p_us, p_un, p_uj, ↓reduceIte, p_cm, hlt9', h9', Nat.not_lt_zero, f1', p_eq]
    by_cases he' : i' = f'
    · simp only [he', ↓reduceIte]
      refine ⟨0, I', _, rfl, ?_, hv'⟩
      have hin' := s_isInT (Int32.ofNat f') 9 (by decide) 0 9 rfl rfl (q_u2 I' 87 0 0, X')
      rw [he'] at hr'
      simp (disch := omega) only [↓ce_87 hB', rf_87 hB', ↓nn_31, ↓nn_33, ↓nn_89, ↓nn_90, ↓nn_91, ↓nn_92, ↓nn_93, ↓nn_94, ↓nn_95, ↓nn_96, ↓nn_97, ↓nn_98, ↓nn_99, ↓nn_100, ↓nn_101, ↓nn_102, ↓nn_103, ↓nn_104, ↓nn_105, ↓nn_106, ↓nn_107, ↓nn_108, p_bs, p_rq0, p_rq1, p_rz0, p_rz1, p_us, p_un, p_uj, ↓reduceIte, hin', hr', t_b0, Bool.true_eq_false, f2']
    · simp only [he', ↓reduceIte]
      have hin' := s_isInT (Int32.ofNat i') 9 (by decide) 0 9 rfl rfl (q_u2 (q_u2 I' 36 17 (Int32.ofNat i')) 87 0 0, X')
      refine ⟨1, _, _, rfl, by simp (disch := omega) only [↓ce_87 hB', rf_87 hB', ↓nn_31, ↓nn_33, ↓nn_89, ↓nn_90, ↓nn_91, ↓nn_92, ↓nn_93, ↓nn_94, ↓nn_95, ↓nn_96, ↓nn_97, ↓nn_98, ↓nn_99, ↓nn_100, ↓nn_101, ↓nn_102, ↓nn_103, ↓nn_104, ↓nn_105, ↓nn_106, ↓nn_107, ↓nn_108, p_bs, p_rq0, p_rq1, p_rz0, p_rz1, p_us, p_un, p_uj, ↓reduceIte, hin', hr', t_b0, Bool.true_eq_false, f2', p_eq, he']; rfl, ?_⟩
      obtain ⟨H', hz', D', lc', lwf', wc', wkf'⟩ := A'
      have k' : ∀ c', c' ≠ 36 → c' ≠ 87 → (q_u2 (q_u2 (q_u2 I' 36 17 (Int32.ofNat i')) 87 0 0) 87 35 (Int32.ofNat i')) c' = (q_u2 I' 87 0 0) c' := fun c' h1' h2' => by rw [p_uc _ _ _ _ _ h2', p_uc _ _ _ _ _ h2', p_uc _ _ _ _ _ h1', p_uc _ _ _ _ _ h2']
      have k36' : ∀ j', j' ≠ 17 → (q_u2 (q_u2 (q_u2 I' 36 17 (Int32.ofNat i')) 87 0 0) 87 35 (Int32.ofNat i')) 36 j' = (q_u2 I' 87 0 0) 36 j' := fun j' hj' => by rw [p_uc _ _ _ _ _ (by decide), p_uc _ _ _ _ _ (by decide), p_uj _ _ _ _ _ hj', p_uc _ _ _ _ _ (by decide)]
      have k87' : ∀ j', j' ≠ 35 → (q_u2 (q_u2 (q_u2 I' 36 17 (Int32.ofNat i')) 87 0 0) 87 35 (Int32.ofNat i')) 87 j' = (q_u2 I' 87 0 0) 87 j' := fun j' hj' => by
        rw [p_uj _ _ _ _ _ hj']
        by_cases e0' : j' = 0
        · subst e0'; rw [p_us, p_us]
        · rw [p_uj _ _ _ _ _ e0', p_uj _ _ _ _ _ e0', p_uc _ _ _ _ _ (by decide)]
      generalize hJ' : q_u2 (q_u2 (q_u2 I' 36 17 (Int32.ofNat i')) 87 0 0) 87 35 (Int32.ofNat i') = J' at *
      generalize q_u2 I' 87 0 0 = K' at *
      unfold v_V at hv' ⊢
      simp only at hv' ⊢
      have z' : ∀ c', c' < 36 ∨ (36 < c' ∧ c' < 87) ∨ 87 < c' → J' c' = K' c' := fun c' hc' => k' c' (by omega) (by omega)
      refine ⟨hB', fun c' hc' => by rw [z' c' (by omega)]; exact hS' c' hc', ?_, ?_, ?_, ?_, ?_, ?_, ?_, ?_, ?_, hv'.2.2.2.2.2.2.2.2.2.2.2.1, ?_⟩
      · have := hv'.2.2.1
        unfold v_T at this ⊢
        rw [z' 37 (by omega), k87' 6 (by omega), z' 38 (by omega), z' 88 (by omega)]; exact this
      · obtain ⟨a1', a2', a3', a4'⟩ := hv'.2.2.2.1
        exact ⟨by rw [k36' 18 (by omega)]; exact a1', t_HIk a2' (fun c' h1' h2' => z' c' (by omega)), t_HMk a3' (z' 92 (by omega)) (z' 94 (by omega)) (z' 96 (by omega)) (k87' 26 (by omega)) (k87' 27 (by omega)), a4'⟩
      · have := hv'.2.2.2.2.1
        unfold v_N at this ⊢
        rw [z' 54 (by omega), z' 100 (by omega), z' 59 (by omega)]; exact this
      · have := hv'.2.2.2.2.2.1
        unfold v_P t_ar t_aw at this ⊢
        rw [z' 57 (by omega), z' 58 (by omega), z' 59 (by omega), z' 103 (by omega), k87' 42 (by omega)]; exact this
      · have := hv'.2.2.2.2.2.2.1
        unfold v_G at this ⊢
        rw [z' 57 (by omega), z' 62 (by omega), z' 107 (by omega), z' 60 (by omega), k87' 49 (by omega)]; exact this
      · have := hv'.2.2.2.2.2.2.2.1
        unfold v_C at this ⊢
        rw [z' 83 (by omega), z' 84 (by omega), z' 104 (by omega), k87' 45 (by omega)]; exact this
      · obtain ⟨a1', a2', a3', a4'⟩ := hv'.2.2.2.2.2.2.2.2.1
        refine ⟨a1', by rw [k36' 14 (by omega)]; exact a2', by rw [k87' 7 (by omega)]; exact a3', fun i' hi' => ?_⟩
        obtain ⟨β, n', cls', b1', b2', b3', b4'⟩ := a4' i' hi'
        have := b2'.2.2.2.2.2.1
        exact ⟨β, n', cls', b1', b2', by rw [z' _ (by omega)]; exact b3', by rw [z' 89 (by omega), z' 90 (by omega)]; exact b4'⟩
      · have := hv'.2.2.2.2.2.2.2.2.2.1
        unfold v_LH at this ⊢
        rw [k36' 16 (by omega), k87' 34 (by omega)]; exact this
      · obtain ⟨a1', a2', a3', a4', a5', a6'⟩ := hv'.2.2.2.2.2.2.2.2.2.2.1
        refine ⟨a1', by rw [k36' 15 (by omega)]; exact a2', by rw [k87' 30 (by omega)]; exact a3', a4', a5', fun i' hi' => ?_⟩
        obtain ⟨b1', sz', b2', b3'⟩ := a6' i' hi'
        have := (a4' i' (by omega)).2.2.2
        exact ⟨b1', sz', b2', by rw [z' _ (by omega), z' (wkf' i' + 1) (by omega), z' 98 (by omega), z' 99 (by omega)]; exact b3'⟩
      · refine ⟨i', by omega, ?_, ?_⟩
        · rw [← hJ', p_uc _ _ _ _ _ (by decide), p_uc _ _ _ _ _ (by decide), p_us]
        · rw [← hJ', p_us]
end PS'
