/-! what keeps each piece of the invariant -/
section PK'
variable {I' J' : p_I} {X' : p_X} {H' : t_H} {hz' : Bool} {D' lc' wc' : Nat} {lwf' wkf' : Nat → Nat}
theorem v_Tk (h' : v_T I') (h1' : J' 37 1 = I' 37 1) (h2' : J' 87 6 = I' 87 6) (h3' : J' 38 = I' 38) (h4' : J' 88 = I' 88) : v_T J' := by
  unfold v_T at h' ⊢
  rw [h1', h2', h3', h4']; exact h'
theorem v_Hk (h' : v_H H' hz' I') (h1' : J' 36 18 = I' 36 18) (h2' : ∀ c', 39 ≤ c' → c' ≤ 43 → J' c' = I' c') (h3' : J' 92 = I' 92) (h4' : J' 94 = I' 94) (h5' : J' 96 = I' 96) (h6' : J' 87 26 = I' 87 26) (h7' : J' 87 27 = I' 87 27) : v_H H' hz' J' := ⟨by rw [h1']; exact h'.1, t_HIk h'.2.1 h2', t_HMk h'.2.2.1 h3' h4' h5' h6' h7', h'.2.2.2⟩
theorem v_Nk (h' : v_N H' hz' I' D') (h1' : J' 54 = I' 54) (h2' : J' 100 = I' 100) (h3' : J' 59 = I' 59) : v_N H' hz' J' D' := by
  unfold v_N at h' ⊢
  rw [h1', h2', h3']; exact h'
theorem v_Pk (h' : v_P H' hz' I' D') (h1' : J' 57 5 = I' 57 5) (h2' : J' 57 6 = I' 57 6) (h3' : J' 58 = I' 58) (h4' : J' 59 = I' 59) (h5' : J' 103 = I' 103) (h6' : J' 87 42 = I' 87 42) : v_P H' hz' J' D' := by
  unfold v_P t_ar t_aw at h' ⊢
  rw [h1', h2', h3', h4', h5', h6']; exact h'
theorem v_Gk (h' : v_G H' hz' I') (h1' : J' 57 4 = I' 57 4) (h2' : J' 62 = I' 62) (h3' : J' 107 = I' 107) (h4' : J' 60 = I' 60) (h5' : J' 87 49 = I' 87 49) : v_G H' hz' J' := by
  unfold v_G at h' ⊢
  rw [h1', h2', h3', h4', h5']; exact h'
theorem v_Ck (h' : v_C H' I') (h1' : J' 83 3 = I' 83 3) (h2' : J' 84 = I' 84) (h3' : J' 104 = I' 104) (h4' : J' 87 45 = I' 87 45) : v_C H' J' := by
  unfold v_C at h' ⊢
  rw [h1', h2', h3', h4']; exact h'
theorem v_Lk (h' : v_L I' X' lc' lwf') (h1' : J' 36 14 = I' 36 14) (h2' : J' 87 7 = I' 87 7) (h3' : ∀ c', 109 ≤ c' → J' c' = I' c') (h4' : J' 89 = I' 89) (h5' : J' 90 = I' 90) : v_L J' X' lc' lwf' := by
  obtain ⟨a1', a2', a3', a4'⟩ := h'
  refine ⟨a1', by rw [h1']; exact a2', by rw [h2']; exact a3', fun i' hi' => ?_⟩
  obtain ⟨β, n', cls', b1', b2', b3', b4'⟩ := a4' i' hi'
  have := b2'.2.2.2.2.2.1
  exact ⟨β, n', cls', b1', b2', by rw [h3' _ (by omega)]; exact b3', by rw [h4', h5']; exact b4'⟩
theorem v_LHk (h' : v_LH I' X' lc' lwf') (h1' : J' 36 16 = I' 36 16) (h2' : J' 87 34 = I' 87 34) : v_LH J' X' lc' lwf' := by
  unfold v_LH at h' ⊢
  rw [h1', h2']; exact h'
theorem v_Wk (h' : v_W I' X' wc' wkf') (h1' : J' 36 15 = I' 36 15) (h2' : J' 87 30 = I' 87 30) (h3' : ∀ c', c' = 85 ∨ c' = 86 ∨ 109 ≤ c' → J' c' = I' c') (h4' : J' 98 = I' 98) (h5' : J' 99 = I' 99) : v_W J' X' wc' wkf' := by
  obtain ⟨a1', a2', a3', a4', a5', a6'⟩ := h'
  refine ⟨a1', by rw [h1']; exact a2', by rw [h2']; exact a3', a4', a5', fun i' hi' => ?_⟩
  obtain ⟨b1', sz', b2', b3'⟩ := a6' i' hi'
  have := (a4' i' (by omega)).2.2.2
  exact ⟨b1', sz', b2', by rw [h3' _ (by omega), h3' (wkf' i' + 1) (by omega), h4', h5']; exact b3'⟩
theorem v_Fk (h' : v_F I') (h1' : J' 36 17 = I' 36 17) (h2' : J' 87 35 = I' 87 35) : v_F J' := by
  unfold v_F at h' ⊢
  rw [h1', h2']; exact h'
end PK'
theorem q_mxc (a' b' : Int32) : q_mx a' b' = q_mx b' a' := by
  unfold q_mx
  by_cases h1' : a' < b'
  · have h2' : ¬ b' < a' := Int32.lt_asymm h1'
    rw [if_pos h1', if_neg h2']
  · by_cases h2' : b' < a'
    · rw [if_neg h1', if_pos h2']
    · rw [if_neg h1', if_neg h2']
      have h3' : a'.toInt = b'.toInt := by
        rw [Int32.lt_iff_toInt_lt] at h1' h2'
        omega
      exact Int32.toInt_inj.mp h3'
theorem p_a127 (D' : Nat) (h' : D' < 2147483648) : Int32.ofNat D' &&& 127 = Int32.ofNat (D' % 128) := by
  apply Int32.toBitVec_inj.mp
  show BitVec.ofNat 32 D' &&& 127#32 = BitVec.ofNat 32 (D' % 128)
  apply BitVec.eq_of_toNat_eq
  rw [BitVec.toNat_and, BitVec.toNat_ofNat, BitVec.toNat_ofNat, BitVec.toNat_ofNat]
  have h1' : D' % 2 ^ 32 = D' := Nat.mod_eq_of_lt (by omega)
  have h2' : D' % 128 % 2 ^ 32 = D' % 128 := Nat.mod_eq_of_lt (by omega)
  have h3' : D' &&& (2 ^ 7 - 1) = D' % 2 ^ 7 := Nat.and_two_pow_sub_one_eq_mod D' 7
  rw [h1', h2']
  exact h3'
theorem q_mn60 (D' : Nat) (h' : D' < 2147483648) : q_mn (Int32.ofNat D') 60 = Int32.ofNat (min D' 60) := by
  unfold q_mn
  have e' : (60 < Int32.ofNat D') = (60 < D') := p_lt 60 D' (by decide) h'
  by_cases h1' : 60 < D'
  · rw [if_pos (by rw [e']; exact h1'), Nat.min_eq_right (by omega)]; rfl
  · rw [if_neg (by rw [e']; exact h1'), Nat.min_eq_left (by omega)]
section PS'
variable {A' : v_A} {X' : p_X} {I' : p_I}
theorem m_end (h' : v_V A' I' X') (l' : Int32) : ∃ r' I1' J', F_X11_end 36 l' (I', X') = some (r', (I1', X')) ∧ F_X12_end 87 l' (I1', X') = some (r', (J', X')) ∧ v_V A' J' X' := by
  have hv' := v_thr h'
  obtain ⟨hB', hS', hT', hH', hN', hP', hG', hC', hL', hLH', hW', hD', hF'⟩ := id hv'
  obtain ⟨β, n', t1', t2', t3', t4', t5', t6'⟩ := hT'
  rw [p_un _ _ _ _ _ _ (by decide)] at t3'
  rw [p_uj _ _ _ _ _ (by decide)] at t4'
  unfold F_X11_end F_X12_end
  by_cases hl' : l' < 0
  · simp only [hl', ↓reduceIte, p_rz0]
    refine ⟨0, I', _, rfl, ?_, hv'⟩
    simp (disch := omega) only [↓ce_87 hB', rf_87 hB', ↓nn_31, ↓nn_33, ↓nn_89, ↓nn_90, ↓nn_91, ↓nn_92, ↓nn_93, ↓nn_94, ↓nn_95, ↓nn_96, ↓nn_97, ↓nn_98, ↓nn_99, ↓nn_100, ↓nn_101, ↓nn_102, ↓nn_103, ↓nn_104, ↓nn_105, ↓nn_106, ↓nn_107, ↓nn_108, p_bs, p_rq0, p_rq1, p_rz0, p_rz1, p_us, p_un, p_uj, ↓reduceIte]
  · by_cases hln' : Int32.ofNat n' < l'
    · simp (disch := omega) only [↓ce_36 hB', rf_36 hB', ↓ce_37 hB', rf_37 hB', ↓nn_38, ↓nn_39, ↓nn_40, ↓nn_45, ↓nn_50, ↓nn_52, ↓nn_53, ↓nn_54, ↓nn_56, ↓nn_58, ↓nn_64, ↓nn_67, ↓nn_68, ↓nn_84, p_bs, p_rq0, p_rq1, p_rz0, p_rz1, p_us, p_un, p_uj, ↓reduceIte, hl', t3', hln']
      refine ⟨0, I', _, rfl, ?_, hv'⟩
      simp (disch := omega) only [↓ce_87 hB', rf_87 hB', ↓nn_31, ↓nn_33, ↓nn_89, ↓nn_90, ↓nn_91, ↓nn_92, ↓nn_93, ↓nn_94, ↓nn_95, ↓nn_96, ↓nn_97, ↓nn_98, ↓nn_99, ↓nn_100, ↓nn_101, ↓nn_102, ↓nn_103, ↓nn_104, ↓nn_105, ↓nn_106, ↓nn_107, ↓nn_108, p_bs, p_rq0, p_rq1, p_rz0, p_rz1, p_us, p_un, p_uj, ↓reduceIte, t4', hln']
    · have hin' : t_inr l' (n' + 1) = true := by
        unfold t_inr
        have e0' : (0 : Int32).toInt = 0 := rfl
        simp only [hl', decide_false, Bool.not_false, Bool.true_and, decide_eq_true_eq]
        rw [Int32.lt_iff_toInt_lt, p_toI (n' + 1) (by omega)]
        rw [Int32.lt_iff_toInt_lt, p_toI n' (by omega)] at hln'
        omega
      obtain ⟨i', hi', rfl⟩ := t_inrE (by omega) hin'
      simp (disch := omega) only [↓ce_36 hB', rf_36 hB', ↓ce_37 hB', rf_37 hB', ↓nn_38, ↓nn_39, ↓nn_40, ↓nn_45, ↓nn_50, ↓nn_52, ↓nn_53, ↓nn_54, ↓nn_56, ↓nn_58, ↓nn_64, ↓nn_67, ↓nn_68, ↓nn_84, p_bs, p_rq0, p_rq1, p_rz0, p_rz1, p_us, p_un, p_uj, ↓reduceIte, hl', t3', hln']
      refine ⟨1, _, _, rfl, by simp (disch := omega) only [↓ce_87 hB', rf_87 hB', ↓nn_31, ↓nn_33, ↓nn_89, ↓nn_90, ↓nn_91, ↓nn_92, ↓nn_93, ↓nn_94, ↓nn_95, ↓nn_96, ↓nn_97, ↓nn_98, ↓nn_99, ↓nn_100, ↓nn_101, ↓nn_102, ↓nn_103, ↓nn_104, ↓nn_105, ↓nn_106, ↓nn_107, ↓nn_108, p_bs, p_rq0, p_rq1, p_rz0, p_rz1, p_us, p_un, p_uj, ↓reduceIte, t4', hln']; rfl, ?_⟩
      have k' : ∀ c', c' ≠ 37 → c' ≠ 87 → q_u2 (q_u2 (q_u2 I' 37 1 (Int32.ofNat i')) 87 0 0) 87 6 (Int32.ofNat i') c' = q_u2 I' 87 0 0 c' := fun c' h1' h2' => by rw [p_uc _ _ _ _ _ h2', p_uc _ _ _ _ _ h2', p_uc _ _ _ _ _ h1', p_uc _ _ _ _ _ h2']
      have k87' : ∀ j', j' ≠ 6 → q_u2 (q_u2 (q_u2 I' 37 1 (Int32.ofNat i')) 87 0 0) 87 6 (Int32.ofNat i') 87 j' = q_u2 I' 87 0 0 87 j' := fun j' hj' => by
        rw [p_uj _ _ _ _ _ hj']
        by_cases e0' : j' = 0
        · subst e0'; rw [p_us, p_us]
        · rw [p_uj _ _ _ _ _ e0', p_uj _ _ _ _ _ e0', p_uc _ _ _ _ _ (by decide)]
      refine ⟨hB', fun c' hc' => by rw [k' c' (by omega) (by omega)]; exact hS' c' hc', ?_, v_Hk hH' (by rw [k' 36 (by decide) (by decide)]) (fun c' h1' h2' => k' c' (by omega) (by omega)) (k' _ (by decide) (by decide)) (k' _ (by decide) (by decide)) (k' _ (by decide) (by decide)) (k87' _ (by decide)) (k87' _ (by decide)), v_Nk hN' (k' _ (by decide) (by decide)) (k' _ (by decide) (by decide)) (k' _ (by decide) (by decide)), v_Pk hP' (by rw [k' 57 (by decide) (by decide)]) (by rw [k' 57 (by decide) (by decide)]) (k' _ (by decide) (by decide)) (k' _ (by decide) (by decide)) (k' _ (by decide) (by decide)) (k87' _ (by decide)), v_Gk hG' (by rw [k' 57 (by decide) (by decide)]) (k' _ (by decide) (by decide)) (k' _ (by decide) (by decide)) (k' _ (by decide) (by decide)) (k87' _ (by decide)), v_Ck hC' (by rw [k' 83 (by decide) (by decide)]) (k' _ (by decide) (by decide)) (k' _ (by decide) (by decide)) (k87' _ (by decide)), v_Lk hL' (by rw [k' 36 (by decide) (by decide)]) (k87' _ (by decide)) (fun c' hc' => k' c' (by omega) (by omega)) (k' _ (by decide) (by decide)) (k' _ (by decide) (by decide)), v_LHk hLH' (by rw [k' 36 (by decide) (by decide)]) (k87' _ (by decide)), v_Wk hW' (by rw [k' 36 (by decide) (by decide)]) (k87' _ (by decide)) (fun c' hc' => k' c' (by omega) (by omega)) (k' _ (by decide) (by decide)) (k' _ (by decide) (by decide)), hD', v_Fk hF' (by rw [k' 36 (by decide) (by decide)]) (k87' _ (by decide))⟩
      refine ⟨β, i', by omega, fun j' hj' => t2' j' (by omega), ?_, p_us _ _ _ _, fun j' hj' => ?_, fun j' hj' => ?_⟩
      · rw [p_uc _ _ _ _ _ (by decide), p_uc _ _ _ _ _ (by decide), p_us]
      · rw [k' 38 (by decide) (by decide)]; exact t5' j' (by omega)
      · rw [k' 88 (by decide) (by decide)]; exact t6' j' (by omega)
theorem m_count (h' : v_V A' I' X') (l' : Int32) : ∃ r' J', F_X11_count 36 l' (I', X') = some r' ∧ F_X12_count 87 l' (I', X') = some (r', (J', X')) ∧ v_V A' J' X' := by
  have hv' := v_thr h'
  obtain ⟨hB', hS', hT', hH', hN', hP', hG', hC', hL', hLH', hW', hD', hF'⟩ := id h'
  obtain ⟨H', hz', D', lc', lwf', wc', wkf'⟩ := A'
  obtain ⟨h1', h2', h3', h4', h5'⟩ := hH'
  obtain ⟨β, n', t1', t2', t3', t4', t5', t6'⟩ := hT'
  obtain ⟨kk', m', dd', q1', q2', q3', q4', q5', q6', q7', q8'⟩ := hP'
  obtain ⟨sc', c1', c2', c3', c4'⟩ := hC'
  obtain ⟨f', f0', f1', f2'⟩ := hF'
  try simp only at h1' h2' h3' h4' h5' hN' q6' q7'
  have h3'' : t_HM H' (q_u2 I' 87 0 0) := t_HMk h3' (p_uc _ _ _ _ _ (by decide)) (p_uc _ _ _ _ _ (by decide)) (p_uc _ _ _ _ _ (by decide)) (p_uj _ _ _ _ _ (by decide)) (p_uj _ _ _ _ _ (by decide))
  have hng6' : t_ng H' ≤ 6 := h2'.2.2.2.2.2.2.2
  have hlh' : I' 87 34 = I' 36 16 := by
    rcases hLH' with ⟨z1', z2', -⟩ | ⟨i', -, z1', z2', -⟩
    · rw [z1', z2']
    · rw [z1', z2']
  -- the day, the joys, who left, the log
  have hday : I' 100 35 = I' 54 0 := by
    cases hz' with
    | false => rw [(hN'.2 rfl).2.2.2 35 (by decide), (hN'.2 rfl).2.1 0 (by decide) (by decide)]
    | true => exact (hN'.1 rfl).2.1.1.2.2.2
  have hD0' : I' 54 0 = Int32.ofNat D' ∧ D' ≤ 999 := by
    cases hz' with
    | false => rw [(hN'.2 rfl).1, (hN'.2 rfl).2.1 0 (by decide) (by decide)]; exact ⟨rfl, by decide⟩
    | true => exact ⟨(hN'.1 rfl).2.2.1, (hN'.1 rfl).2.2.2.1⟩
  have hjoy : F_X12_joys 87 100 (q_u2 I' 87 0 0, X') = some (t_sm (I' 54) 6) := by
    cases hz' with
    | false =>
      have h0' := (h5' rfl).2
      have hb' : B_X12_joys_4 87 100 0 0 (q_u2 I' 87 0 0, X') = some (.inr 0) := by
        unfold B_X12_joys_4
        have g' : I' 87 27 = 0 := by rw [h3'.2.2.2.2, h0']; rfl
        simp (disch := omega) only [↓ce_87 hB', rf_87 hB', ↓nn_31, ↓nn_33, ↓nn_89, ↓nn_90, ↓nn_91, ↓nn_92, ↓nn_93, ↓nn_94, ↓nn_95, ↓nn_96, ↓nn_97, ↓nn_98, ↓nn_99, ↓nn_100, ↓nn_101, ↓nn_102, ↓nn_103, ↓nn_104, ↓nn_105, ↓nn_106, ↓nn_107, ↓nn_108, p_bs, p_rq0, p_rq1, p_rz0, p_rz1, p_us, p_un, p_uj, ↓reduceIte, g', show ((0 : Int32) < 0) = False from by decide]
      unfold F_X12_joys
      rw [p_fu, p_lpE (e' := (0 : Int32)) hb']
      have hz0' := (hN'.2 rfl).2.1
      show some (0 : Int32) = some (t_sm (I' 54) 6)
      have : t_sm (I' 54) 6 = 0 := by
        have := t_smZ (I' 54) 0 6 (fun g' _ hg' => hz0' (25 + g') (by omega) (by omega))
        rw [Nat.zero_add] at this
        exact this
      rw [this]
    | true =>
      obtain ⟨r1', r2', -⟩ := hN'.1 rfl
      have := s_joys (c' := 100) (s' := I' 54) hB' h3'' (h4' rfl) (.inl rfl) (fun g' hg' => by rw [p_un _ _ _ _ _ _ (by decide)]; exact (r2'.1.1 g' hg').2.2.1)
      rw [this, t_sm6 hng6' r1']
  have hleft : q_lp (fun s' => B_X12_count_123 87 s'.1 s'.2 (q_u2 I' 87 0 0, X')) q_fu ((0 : Int32), (0 : Int32)) = some (I' 54 4) := by
    cases hz' with
    | false =>
      have h0' := (h5' rfl).2
      have hb' : B_X12_count_123 87 0 0 (q_u2 I' 87 0 0, X') = some (.inr 0) := by
        unfold B_X12_count_123
        have g' : I' 87 27 = 0 := by rw [h3'.2.2.2.2, h0']; rfl
        simp (disch := omega) only [↓ce_87 hB', rf_87 hB', ↓nn_31, ↓nn_33, ↓nn_89, ↓nn_90, ↓nn_91, ↓nn_92, ↓nn_93, ↓nn_94, ↓nn_95, ↓nn_96, ↓nn_97, ↓nn_98, ↓nn_99, ↓nn_100, ↓nn_101, ↓nn_102, ↓nn_103, ↓nn_104, ↓nn_105, ↓nn_106, ↓nn_107, ↓nn_108, p_bs, p_rq0, p_rq1, p_rz0, p_rz1, p_us, p_un, p_uj, ↓reduceIte, g', show ((0 : Int32) < 0) = False from by decide]
      rw [p_fu, p_lpE (e' := (0 : Int32)) hb', (hN'.2 rfl).2.1 4 (by decide) (by decide)]
    | true =>
      obtain ⟨r1', r2', -⟩ := hN'.1 rfl
      obtain ⟨p', p1', p2'⟩ := r1'.2.2.2.2.2.2.1
      rw [p1']
      refine p_for (fun s' => B_X12_count_123 87 s'.1 s'.2 (q_u2 I' 87 0 0, X')) (t_ng H') (fun i' => (t_B (fun g' => decide (g' < i') && p' g'), Int32.ofNat i')) _ (by unfold q_fu; omega) (fun i' hi' => ?_) ?_ _ ?_
      · simp only
        unfold B_X12_count_123
        have w3' : I' 100 (4 * i' + 3) = t_b (p' i') := by rw [(r2'.1.1 i' (by omega)).2.2.2, p1', t_BA p' i' (by omega)]
        simp (disch := omega) only [↓ce_87 hB', rf_87 hB', ↓ce_100 hB', ↓nn_31, ↓nn_33, ↓nn_89, ↓nn_90, ↓nn_91, ↓nn_92, ↓nn_93, ↓nn_94, ↓nn_95, ↓nn_96, ↓nn_97, ↓nn_98, ↓nn_99, ↓nn_100, ↓nn_101, ↓nn_102, ↓nn_103, ↓nn_104, ↓nn_105, ↓nn_106, ↓nn_107, ↓nn_108, p_bs, p_rq0, p_rq1, p_rz0, p_rz1, p_us, p_un, p_uj, ↓reduceIte, h3'.2.2.2.2, p_lt, hi', p_ar, w3']
        refine congrArg (fun z' => some (Sum.inl (z', Int32.ofNat (i' + 1)))) ?_
        cases hp' : p' i'
        · have z0' : t_b false <<< (Int32.ofNat i' &&& 31) = 0 := by
            have hh' : ∀ i' : Fin 6, t_b false <<< (Int32.ofNat i' &&& 31) = 0 := by decide
            exact hh' ⟨i', by omega⟩
          rw [z0', show ∀ x' : Int32, x' ||| 0 = x' from fun x' => by simp]
          refine t_BC (fun g' _ => ?_)
          by_cases e' : g' = i'
          · subst e'; simp [hp']
          · have : (g' < i' + 1) = (g' < i') := by rw [eq_iff_iff]; omega
            simp [this]
        · rw [show t_b true = 1 from rfl, t_BO _ _ (by omega)]
          refine t_BC (fun g' _ => ?_)
          by_cases e' : g' = i'
          · subst e'; simp [hp']
          · have : (g' < i' + 1) = (g' < i') := by rw [eq_iff_iff]; omega
            simp [this, e']
      · simp only
        unfold B_X12_count_123
        simp (disch := omega) only [↓ce_87 hB', rf_87 hB', ↓nn_31, ↓nn_33, ↓nn_89, ↓nn_90, ↓nn_91, ↓nn_92, ↓nn_93, ↓nn_94, ↓nn_95, ↓nn_96, ↓nn_97, ↓nn_98, ↓nn_99, ↓nn_100, ↓nn_101, ↓nn_102, ↓nn_103, ↓nn_104, ↓nn_105, ↓nn_106, ↓nn_107, ↓nn_108, p_bs, p_rq0, p_rq1, p_rz0, p_rz1, p_us, p_un, p_uj, ↓reduceIte, h3'.2.2.2.2, p_lt, Nat.lt_irrefl]
        refine congrArg (fun z' => some (Sum.inr z')) (t_BC (fun g' _ => ?_))
        by_cases e' : g' < t_ng H'
        · simp [e']
        · simp [e', p2' g' (by omega)]
      · rw [t_BZ (fun g' _ => by simp)]; rfl
  have hlog : I' 100 36 = Int32.ofNat (min D' 60) := by
    cases hz' with
    | false => rw [(hN'.2 rfl).2.2.2 36 (by decide), (hN'.2 rfl).1]; rfl
    | true => exact (hN'.1 rfl).2.2.2.2.2.1
  have hmn' := q_mn60 D' (by omega)
  have hja' := s_joyOfAll (I' := I') (k' := 53) hB' (.inl rfl)
  unfold F_X11_count F_X12_count F_X6_logLength
  simp only [↓ce_87 hB']
  by_cases e0' : l' = 0
  · subst e0'
    simp (disch := omega) only [↓ce_36 hB', rf_36 hB', ↓ce_39 hB', rf_39 hB', ↓ce_87 hB', rf_87 hB', ↓nn_31, ↓nn_33, ↓nn_38, ↓nn_40, ↓nn_41, ↓nn_42, ↓nn_43, ↓nn_44, ↓nn_45, ↓nn_50, ↓nn_52, ↓nn_53, ↓nn_54, ↓nn_56, ↓nn_58, ↓nn_64, ↓nn_67, ↓nn_68, ↓nn_84, ↓nn_89, ↓nn_90, ↓nn_91, ↓nn_92, ↓nn_93, ↓nn_94, ↓nn_95, ↓nn_96, ↓nn_97, ↓nn_98, ↓nn_99, ↓nn_100, ↓nn_101, ↓nn_102, ↓nn_103, ↓nn_104, ↓nn_105, ↓nn_106, ↓nn_107, ↓nn_108, p_bs, p_rq0, p_rq1, p_rz0, p_rz1, p_us, p_un, p_uj, ↓reduceIte, h2'.2.2.2.2.2.1, h3'.2.2.2.2]
    exact ⟨_, _, rfl, rfl, hv'⟩
  by_cases e1' : l' = 1
  · subst e1'
    simp (disch := omega) only [↓ce_36 hB', rf_36 hB', ↓ce_39 hB', rf_39 hB', ↓ce_87 hB', rf_87 hB', ↓nn_31, ↓nn_33, ↓nn_38, ↓nn_40, ↓nn_41, ↓nn_42, ↓nn_43, ↓nn_44, ↓nn_45, ↓nn_50, ↓nn_52, ↓nn_53, ↓nn_54, ↓nn_56, ↓nn_58, ↓nn_64, ↓nn_67, ↓nn_68, ↓nn_84, ↓nn_89, ↓nn_90, ↓nn_91, ↓nn_92, ↓nn_93, ↓nn_94, ↓nn_95, ↓nn_96, ↓nn_97, ↓nn_98, ↓nn_99, ↓nn_100, ↓nn_101, ↓nn_102, ↓nn_103, ↓nn_104, ↓nn_105, ↓nn_106, ↓nn_107, ↓nn_108, p_bs, p_rq0, p_rq1, p_rz0, p_rz1, p_us, p_un, p_uj, ↓reduceIte, h2'.2.2.2.2.1, h3'.2.2.2.1, show ((1 : Int32) = 0) = False from by decide]
    exact ⟨_, _, rfl, rfl, hv'⟩
  by_cases e2' : l' = 2
  · simp only [e0', e1', e2', ↓reduceIte]
    simp (disch := omega) only [↓ce_36 hB', rf_36 hB', ↓ce_87 hB', rf_87 hB', ↓nn_31, ↓nn_33, ↓nn_38, ↓nn_40, ↓nn_45, ↓nn_50, ↓nn_52, ↓nn_53, ↓nn_54, ↓nn_56, ↓nn_58, ↓nn_64, ↓nn_67, ↓nn_68, ↓nn_84, ↓nn_89, ↓nn_90, ↓nn_91, ↓nn_92, ↓nn_93, ↓nn_94, ↓nn_95, ↓nn_96, ↓nn_97, ↓nn_98, ↓nn_99, ↓nn_100, ↓nn_101, ↓nn_102, ↓nn_103, ↓nn_104, ↓nn_105, ↓nn_106, ↓nn_107, ↓nn_108, p_bs, p_rq0, p_rq1, p_rz0, p_rz1, p_us, p_un, p_uj, ↓reduceIte, hL'.2.1, hL'.2.2.1, show ((2 : Int32) = 0) = False from by decide, show ((2 : Int32) = 1) = False from by decide]
    exact ⟨_, _, rfl, rfl, hv'⟩
  by_cases e3' : l' = 3
  · simp only [e0', e1', e2', ↓reduceIte]
    simp (disch := omega) only [↓ce_36 hB', rf_36 hB', ↓ce_87 hB', rf_87 hB', ↓nn_31, ↓nn_33, ↓nn_38, ↓nn_40, ↓nn_45, ↓nn_50, ↓nn_52, ↓nn_53, ↓nn_54, ↓nn_56, ↓nn_58, ↓nn_64, ↓nn_67, ↓nn_68, ↓nn_84, ↓nn_89, ↓nn_90, ↓nn_91, ↓nn_92, ↓nn_93, ↓nn_94, ↓nn_95, ↓nn_96, ↓nn_97, ↓nn_98, ↓nn_99, ↓nn_100, ↓nn_101, ↓nn_102, ↓nn_103, ↓nn_104, ↓nn_105, ↓nn_106, ↓nn_107, ↓nn_108, p_bs, p_rq0, p_rq1, p_rz0, p_rz1, p_us, p_un, p_uj, ↓reduceIte, e3', hW'.2.1, hW'.2.2.1]
    exact ⟨_, _, rfl, rfl, hv'⟩
  by_cases e4' : l' = 4
  · simp only [e0', e1', e2', e3', ↓reduceIte]
    simp (disch := omega) only [↓ce_36 hB', rf_36 hB', ↓ce_37 hB', rf_37 hB', ↓ce_87 hB', rf_87 hB', ↓nn_31, ↓nn_33, ↓nn_38, ↓nn_39, ↓nn_40, ↓nn_45, ↓nn_50, ↓nn_52, ↓nn_53, ↓nn_54, ↓nn_56, ↓nn_58, ↓nn_64, ↓nn_67, ↓nn_68, ↓nn_84, ↓nn_89, ↓nn_90, ↓nn_91, ↓nn_92, ↓nn_93, ↓nn_94, ↓nn_95, ↓nn_96, ↓nn_97, ↓nn_98, ↓nn_99, ↓nn_100, ↓nn_101, ↓nn_102, ↓nn_103, ↓nn_104, ↓nn_105, ↓nn_106, ↓nn_107, ↓nn_108, p_bs, p_rq0, p_rq1, p_rz0, p_rz1, p_us, p_un, p_uj, ↓reduceIte, e4', t3', t4']
    exact ⟨_, _, rfl, rfl, hv'⟩
  by_cases e5' : l' = 5
  · simp only [e0', e1', e2', e3', e4', ↓reduceIte]
    simp (disch := omega) only [↓ce_36 hB', rf_36 hB', ↓ce_87 hB', rf_87 hB', ↓nn_31, ↓nn_33, ↓nn_38, ↓nn_40, ↓nn_45, ↓nn_50, ↓nn_52, ↓nn_53, ↓nn_54, ↓nn_56, ↓nn_58, ↓nn_64, ↓nn_67, ↓nn_68, ↓nn_84, ↓nn_89, ↓nn_90, ↓nn_91, ↓nn_92, ↓nn_93, ↓nn_94, ↓nn_95, ↓nn_96, ↓nn_97, ↓nn_98, ↓nn_99, ↓nn_100, ↓nn_101, ↓nn_102, ↓nn_103, ↓nn_104, ↓nn_105, ↓nn_106, ↓nn_107, ↓nn_108, p_bs, p_rq0, p_rq1, p_rz0, p_rz1, p_us, p_un, p_uj, ↓reduceIte, e5', hlh']
    exact ⟨_, _, rfl, rfl, hv'⟩
  by_cases e6' : l' = 6
  · simp only [e0', e1', e2', e3', e4', e5', ↓reduceIte]
    simp (disch := omega) only [↓ce_36 hB', rf_36 hB', ↓ce_53 hB', rf_53 hB', ↓ce_54 hB', ↓ce_87 hB', rf_87 hB', ↓ce_100 hB', ↓nn_31, ↓nn_33, ↓nn_38, ↓nn_40, ↓nn_45, ↓nn_50, ↓nn_52, ↓nn_53, ↓nn_54, ↓nn_55, ↓nn_56, ↓nn_58, ↓nn_64, ↓nn_67, ↓nn_68, ↓nn_84, ↓nn_89, ↓nn_90, ↓nn_91, ↓nn_92, ↓nn_93, ↓nn_94, ↓nn_95, ↓nn_96, ↓nn_97, ↓nn_98, ↓nn_99, ↓nn_100, ↓nn_101, ↓nn_102, ↓nn_103, ↓nn_104, ↓nn_105, ↓nn_106, ↓nn_107, ↓nn_108, p_bs, p_rq0, p_rq1, p_rz0, p_rz1, p_us, p_un, p_uj, ↓reduceIte, e6', hday]
    exact ⟨_, _, rfl, rfl, hv'⟩
  by_cases e7' : l' = 7
  · simp only [e0', e1', e2', e3', e4', e5', e6', ↓reduceIte]
    simp (disch := omega) only [↓ce_36 hB', rf_36 hB', ↓ce_53 hB', rf_53 hB', ↓ce_87 hB', rf_87 hB', ↓nn_31, ↓nn_33, ↓nn_38, ↓nn_40, ↓nn_45, ↓nn_50, ↓nn_52, ↓nn_53, ↓nn_54, ↓nn_55, ↓nn_56, ↓nn_58, ↓nn_64, ↓nn_67, ↓nn_68, ↓nn_84, ↓nn_89, ↓nn_90, ↓nn_91, ↓nn_92, ↓nn_93, ↓nn_94, ↓nn_95, ↓nn_96, ↓nn_97, ↓nn_98, ↓nn_99, ↓nn_100, ↓nn_101, ↓nn_102, ↓nn_103, ↓nn_104, ↓nn_105, ↓nn_106, ↓nn_107, ↓nn_108, p_bs, p_rq0, p_rq1, p_rz0, p_rz1, p_us, p_un, p_uj, ↓reduceIte, e7', hja', hjoy]
    exact ⟨_, _, rfl, rfl, hv'⟩
  by_cases e8' : l' = 8
  · simp only [e0', e1', e2', e3', e4', e5', e6', e7', ↓reduceIte]
    simp (disch := omega) only [↓ce_36 hB', rf_36 hB', ↓ce_53 hB', rf_53 hB', ↓ce_54 hB', ↓nn_38, ↓nn_40, ↓nn_45, ↓nn_50, ↓nn_52, ↓nn_53, ↓nn_54, ↓nn_55, ↓nn_56, ↓nn_58, ↓nn_64, ↓nn_67, ↓nn_68, ↓nn_84, p_bs, p_rq0, p_rq1, p_rz0, p_rz1, p_us, p_un, p_uj, ↓reduceIte, e8', hleft]
    exact ⟨_, _, rfl, rfl, hv'⟩
  by_cases e9' : l' = 9
  · simp only [e0', e1', e2', e3', e4', e5', e6', e7', e8', ↓reduceIte]
    simp (disch := omega) only [↓ce_36 hB', rf_36 hB', ↓ce_87 hB', rf_87 hB', ↓nn_31, ↓nn_33, ↓nn_38, ↓nn_40, ↓nn_45, ↓nn_50, ↓nn_52, ↓nn_53, ↓nn_54, ↓nn_56, ↓nn_58, ↓nn_64, ↓nn_67, ↓nn_68, ↓nn_84, ↓nn_89, ↓nn_90, ↓nn_91, ↓nn_92, ↓nn_93, ↓nn_94, ↓nn_95, ↓nn_96, ↓nn_97, ↓nn_98, ↓nn_99, ↓nn_100, ↓nn_101, ↓nn_102, ↓nn_103, ↓nn_104, ↓nn_105, ↓nn_106, ↓nn_107, ↓nn_108, p_bs, p_rq0, p_rq1, p_rz0, p_rz1, p_us, p_un, p_uj, ↓reduceIte, e9', f1', f2']
    exact ⟨_, _, rfl, rfl, hv'⟩
  by_cases e10' : l' = 10
  · simp only [e0', e1', e2', e3', e4', e5', e6', e7', e8', e9', ↓reduceIte]
    simp (disch := omega) only [↓ce_36 hB', rf_36 hB', ↓ce_83 hB', rf_83 hB', ↓ce_87 hB', rf_87 hB', ↓nn_31, ↓nn_33, ↓nn_38, ↓nn_40, ↓nn_45, ↓nn_50, ↓nn_52, ↓nn_53, ↓nn_54, ↓nn_56, ↓nn_58, ↓nn_64, ↓nn_67, ↓nn_68, ↓nn_84, ↓nn_85, ↓nn_89, ↓nn_90, ↓nn_91, ↓nn_92, ↓nn_93, ↓nn_94, ↓nn_95, ↓nn_96, ↓nn_97, ↓nn_98, ↓nn_99, ↓nn_100, ↓nn_101, ↓nn_102, ↓nn_103, ↓nn_104, ↓nn_105, ↓nn_106, ↓nn_107, ↓nn_108, p_bs, p_rq0, p_rq1, p_rz0, p_rz1, p_us, p_un, p_uj, ↓reduceIte, e10', c2', c3']
    exact ⟨_, _, rfl, rfl, hv'⟩
  by_cases e11' : l' = 11
  · simp only [e0', e1', e2', e3', e4', e5', e6', e7', e8', e9', e10', ↓reduceIte]
    simp (disch := omega) only [↓ce_36 hB', rf_36 hB', ↓ce_53 hB', rf_53 hB', ↓ce_54 hB', ↓ce_87 hB', rf_87 hB', ↓ce_100 hB', ↓nn_31, ↓nn_33, ↓nn_38, ↓nn_40, ↓nn_45, ↓nn_50, ↓nn_52, ↓nn_53, ↓nn_54, ↓nn_55, ↓nn_56, ↓nn_58, ↓nn_64, ↓nn_67, ↓nn_68, ↓nn_84, ↓nn_89, ↓nn_90, ↓nn_91, ↓nn_92, ↓nn_93, ↓nn_94, ↓nn_95, ↓nn_96, ↓nn_97, ↓nn_98, ↓nn_99, ↓nn_100, ↓nn_101, ↓nn_102, ↓nn_103, ↓nn_104, ↓nn_105, ↓nn_106, ↓nn_107, ↓nn_108, p_bs, p_rq0, p_rq1, p_rz0, p_rz1, p_us, p_un, p_uj, ↓reduceIte, e11', hD0'.1, hmn', hlog]
    exact ⟨_, _, rfl, rfl, hv'⟩
  by_cases e12' : l' = 12
  · simp only [e0', e1', e2', e3', e4', e5', e6', e7', e8', e9', e10', e11', ↓reduceIte]
    simp (disch := omega) only [↓ce_36 hB', rf_36 hB', ↓ce_57 hB', rf_57 hB', ↓ce_87 hB', rf_87 hB', ↓nn_31, ↓nn_33, ↓nn_38, ↓nn_40, ↓nn_45, ↓nn_50, ↓nn_52, ↓nn_53, ↓nn_54, ↓nn_56, ↓nn_58, ↓nn_59, ↓nn_60, ↓nn_61, ↓nn_62, ↓nn_64, ↓nn_67, ↓nn_68, ↓nn_84, ↓nn_89, ↓nn_90, ↓nn_91, ↓nn_92, ↓nn_93, ↓nn_94, ↓nn_95, ↓nn_96, ↓nn_97, ↓nn_98, ↓nn_99, ↓nn_100, ↓nn_101, ↓nn_102, ↓nn_103, ↓nn_104, ↓nn_105, ↓nn_106, ↓nn_107, ↓nn_108, p_bs, p_rq0, p_rq1, p_rz0, p_rz1, p_us, p_un, p_uj, ↓reduceIte, e12', q3', q5']
    exact ⟨_, _, rfl, rfl, hv'⟩
  simp only [e0', e1', e2', e3', e4', e5', e6', e7', e8', e9', e10', e11', e12', ↓reduceIte]
  exact ⟨_, _, rfl, rfl, hv'⟩
theorem m_kinds (h' : v_V A' I' X') (l' : Int32) : ∃ r' J', F_X11_kinds 36 l' (I', X') = some r' ∧ F_X12_kinds 87 l' (I', X') = some (r', (J', X')) ∧ v_V A' J' X' := by
  have hv' := v_thr h'
  obtain ⟨hB', hS', hT', hH', hN', hP', hG', hC', hL', hLH', hW', hD', hF'⟩ := id h'
  obtain ⟨H', hz', D', lc', lwf', wc', wkf'⟩ := A'
  obtain ⟨h1', h2', h3', h4', h5'⟩ := hH'
  try simp only at h1' h2' h3' h4' h5' hN'
  have h3'' : t_HM H' (q_u2 I' 87 0 0) := t_HMk h3' (p_uc _ _ _ _ _ (by decide)) (p_uc _ _ _ _ _ (by decide)) (p_uc _ _ _ _ _ (by decide)) (p_uj _ _ _ _ _ (by decide)) (p_uj _ _ _ _ _ (by decide))
  have hin' := s_isInT l' 3 (by decide) 0 3 rfl rfl (q_u2 I' 87 0 0, X')
  have g27' : I' 87 27 = Int32.ofNat (t_ng H') := h3'.2.2.2.2
  unfold F_X11_kinds F_X12_kinds
  cases hz' with
  | false =>
    have g' : I' 87 27 = 0 := by rw [g27', (h5' rfl).2]; rfl
    simp (disch := omega) only [↓ce_36 hB', rf_36 hB', ↓ce_87 hB', rf_87 hB', ↓nn_31, ↓nn_33, ↓nn_38, ↓nn_40, ↓nn_45, ↓nn_50, ↓nn_52, ↓nn_53, ↓nn_54, ↓nn_56, ↓nn_58, ↓nn_64, ↓nn_67, ↓nn_68, ↓nn_84, ↓nn_89, ↓nn_90, ↓nn_91, ↓nn_92, ↓nn_93, ↓nn_94, ↓nn_95, ↓nn_96, ↓nn_97, ↓nn_98, ↓nn_99, ↓nn_100, ↓nn_101, ↓nn_102, ↓nn_103, ↓nn_104, ↓nn_105, ↓nn_106, ↓nn_107, ↓nn_108, p_bs, p_rq0, p_rq1, p_rz0, p_rz1, p_us, p_un, p_uj, ↓reduceIte, h1', t_b0, g']
    exact ⟨_, _, rfl, rfl, hv'⟩
  | true =>
    have hW' := h4' rfl
    have hnd5' := hW'.2.1
    have hne' : ¬ t_ng H' = 0 := by have := hW'.2.2.1; omega
    have hng6' := hW'.2.2.2.1
    have hstep : ∀ i', (if t_hd H' (i' * 3 + 2) = l' then t_B (fun d' => decide (d' < i') && decide (t_hd H' (d' * 3 + 2) = l')) ||| ((1 : Int32) <<< (Int32.ofNat i' &&& 31)) else t_B (fun d' => decide (d' < i') && decide (t_hd H' (d' * 3 + 2) = l'))) = t_B (fun d' => decide (d' < i' + 1) && decide (t_hd H' (d' * 3 + 2) = l')) ∨ 5 ≤ i' := by
      intro i'
      by_cases h5' : 5 ≤ i'
      · exact .inr h5'
      · left
        by_cases hk' : t_hd H' (i' * 3 + 2) = l'
        · rw [if_pos hk', t_BO _ _ (by omega)]
          refine t_BC (fun g' _ => ?_)
          by_cases e' : g' = i'
          · subst e'; simp [hk']
          · have : (g' < i' + 1) = (g' < i') := by rw [eq_iff_iff]; omega
            simp [this, e']
        · rw [if_neg hk']
          refine t_BC (fun g' _ => ?_)
          by_cases e' : g' = i'
          · subst e'; simp [hk']
          · have : (g' < i' + 1) = (g' < i') := by rw [eq_iff_iff]; omega
            simp [this]
    have hc' : q_lp (fun s' => B_X11_kinds_22 36 l' s'.1 s'.2 (I', X')) q_fu ((0 : Int32), (0 : Int32)) = some (t_B (fun d' => decide (d' < t_nd H') && decide (t_hd H' (d' * 3 + 2) = l'))) := by
      refine p_for (fun s' => B_X11_kinds_22 36 l' s'.1 s'.2 (I', X')) (t_nd H') (fun i' => (t_B (fun d' => decide (d' < i') && decide (t_hd H' (d' * 3 + 2) = l')), Int32.ofNat i')) _ (by unfold q_fu; omega) (fun i' hi' => ?_) ?_ _ (by rw [t_BZ (fun g' _ => by simp)]; rfl)
      · have ho' : F_X3_ofDish 39 (Int32.ofNat i') 2 (I', X') = some (t_hd H' (i' * 3 + 2)) := s_ofDish hB' h2' i' 2 (by omega) (by omega)
        simp only
        unfold B_X11_kinds_22 J_X11_kinds_52_22
        simp (disch := omega) only [↓ce_36 hB', rf_36 hB', ↓ce_39 hB', rf_39 hB', ↓nn_38, ↓nn_40, ↓nn_41, ↓nn_42, ↓nn_43, ↓nn_44, ↓nn_45, ↓nn_50, ↓nn_52, ↓nn_53, ↓nn_54, ↓nn_56, ↓nn_58, ↓nn_64, ↓nn_67, ↓nn_68, ↓nn_84, p_bs, p_rq0, p_rq1, p_rz0, p_rz1, p_us, p_un, p_uj, ↓reduceIte, h2'.2.2.2.2.1, p_lt, hi', ho', p_ar]
        rcases hstep i' with hs' | hs'
        · rw [← hs']
          by_cases hk' : t_hd H' (i' * 3 + 2) = l'
          · simp only [hk', ↓reduceIte]
          · simp only [hk', ↓reduceIte]
        · omega
      · simp only
        unfold B_X11_kinds_22
        simp (disch := omega) only [↓ce_36 hB', rf_36 hB', ↓ce_39 hB', rf_39 hB', ↓nn_38, ↓nn_40, ↓nn_41, ↓nn_42, ↓nn_43, ↓nn_44, ↓nn_45, ↓nn_50, ↓nn_52, ↓nn_53, ↓nn_54, ↓nn_56, ↓nn_58, ↓nn_64, ↓nn_67, ↓nn_68, ↓nn_84, p_bs, p_rq0, p_rq1, p_rz0, p_rz1, p_us, p_un, p_uj, ↓reduceIte, h2'.2.2.2.2.1, p_lt, Nat.lt_irrefl]
    have hm' : q_lp (fun s' => B_X12_kinds_30 87 l' s'.1 s'.2 (q_u2 I' 87 0 0, X')) q_fu ((0 : Int32), (0 : Int32)) = some (t_B (fun d' => decide (d' < t_nd H') && decide (t_hd H' (d' * 3 + 2) = l'))) := by
      refine p_for (fun s' => B_X12_kinds_30 87 l' s'.1 s'.2 (q_u2 I' 87 0 0, X')) (t_nd H') (fun i' => (t_B (fun d' => decide (d' < i') && decide (t_hd H' (d' * 3 + 2) = l')), Int32.ofNat i')) _ (by unfold q_fu; omega) (fun i' hi' => ?_) ?_ _ (by rw [t_BZ (fun g' _ => by simp)]; rfl)
      · have ho' := s_kindOf hB' h3'' hW' i' hi'
        simp only
        unfold B_X12_kinds_30 J_X12_kinds_55_30
        simp (disch := omega) only [↓ce_87 hB', rf_87 hB', ↓nn_31, ↓nn_33, ↓nn_89, ↓nn_90, ↓nn_91, ↓nn_92, ↓nn_93, ↓nn_94, ↓nn_95, ↓nn_96, ↓nn_97, ↓nn_98, ↓nn_99, ↓nn_100, ↓nn_101, ↓nn_102, ↓nn_103, ↓nn_104, ↓nn_105, ↓nn_106, ↓nn_107, ↓nn_108, p_bs, p_rq0, p_rq1, p_rz0, p_rz1, p_us, p_un, p_uj, ↓reduceIte, h3''.2.2.2.1, h3'.2.2.2.1, p_lt, hi', ho', p_ar]
        rcases hstep i' with hs' | hs'
        · rw [← hs']
          by_cases hk' : t_hd H' (i' * 3 + 2) = l'
          · simp only [hk', ↓reduceIte]
          · simp only [hk', ↓reduceIte, show ∀ x' : Int32, x' ||| 0 = x' from fun x' => by simp]
        · omega
      · simp only
        unfold B_X12_kinds_30
        simp (disch := omega) only [↓ce_87 hB', rf_87 hB', ↓nn_31, ↓nn_33, ↓nn_89, ↓nn_90, ↓nn_91, ↓nn_92, ↓nn_93, ↓nn_94, ↓nn_95, ↓nn_96, ↓nn_97, ↓nn_98, ↓nn_99, ↓nn_100, ↓nn_101, ↓nn_102, ↓nn_103, ↓nn_104, ↓nn_105, ↓nn_106, ↓nn_107, ↓nn_108, p_bs, p_rq0, p_rq1, p_rz0, p_rz1, p_us, p_un, p_uj, ↓reduceIte, h3'.2.2.2.1, p_lt, Nat.lt_irrefl]
    simp (disch := omega) only [↓ce_36 hB', rf_36 hB', ↓ce_87 hB', rf_87 hB', ↓nn_31, ↓nn_33, ↓nn_38, ↓nn_40, ↓nn_45, ↓nn_50, ↓nn_52, ↓nn_53, ↓nn_54, ↓nn_56, ↓nn_58, ↓nn_64, ↓nn_67, ↓nn_68, ↓nn_84, ↓nn_89, ↓nn_90, ↓nn_91, ↓nn_92, ↓nn_93, ↓nn_94, ↓nn_95, ↓nn_96, ↓nn_97, ↓nn_98, ↓nn_99, ↓nn_100, ↓nn_101, ↓nn_102, ↓nn_103, ↓nn_104, ↓nn_105, ↓nn_106, ↓nn_107, ↓nn_108, p_bs, p_rq0, p_rq1, p_rz0, p_rz1, p_us, p_un, p_uj, ↓reduceIte, h1', t_b0, Bool.true_eq_false, g27', p_cm, hne', hin']
    rw [t_ifr l' 4 4 rfl]
    cases hr' : t_inr l' 4
    · simp only [↓reduceIte, Bool.false_eq_true]
      exact ⟨_, _, rfl, rfl, hv'⟩
    · simp only [Bool.true_eq_false, ↓reduceIte, hc', hm', p_bs]
      exact ⟨_, _, rfl, rfl, hv'⟩
theorem m_staying (h' : v_V A' I' X') (l' : Int32) : ∃ r' J', F_X11_staying 36 l' (I', X') = some r' ∧ F_X12_staying 87 l' (I', X') = some (r', (J', X')) ∧ v_V A' J' X' := by
  have hv' := v_thr h'
  obtain ⟨hB', hS', hT', hH', hN', hP', hG', hC', hL', hLH', hW', hD', hF'⟩ := id h'
  obtain ⟨H', hz', D', lc', lwf', wc', wkf'⟩ := A'
  obtain ⟨h1', h2', h3', h4', h5'⟩ := hH'
  try simp only at h1' h2' h3' h4' h5' hN'
  have h3'' : t_HM H' (q_u2 I' 87 0 0) := t_HMk h3' (p_uc _ _ _ _ _ (by decide)) (p_uc _ _ _ _ _ (by decide)) (p_uc _ _ _ _ _ (by decide)) (p_uj _ _ _ _ _ (by decide)) (p_uj _ _ _ _ _ (by decide))
  have hng6' : t_ng H' ≤ 6 := h2'.2.2.2.2.2.2.2
  have hg' := s_hasGuest hB' h2' l'
  have hg'' := s_isGuest hB' h3'' l'
  unfold F_X11_staying F_X12_staying
  simp (disch := omega) only [↓ce_36 hB', rf_36 hB', ↓ce_39 hB', rf_39 hB', ↓ce_87 hB', rf_87 hB', ↓nn_31, ↓nn_33, ↓nn_38, ↓nn_40, ↓nn_41, ↓nn_42, ↓nn_43, ↓nn_44, ↓nn_45, ↓nn_50, ↓nn_52, ↓nn_53, ↓nn_54, ↓nn_56, ↓nn_58, ↓nn_64, ↓nn_67, ↓nn_68, ↓nn_84, ↓nn_89, ↓nn_90, ↓nn_91, ↓nn_92, ↓nn_93, ↓nn_94, ↓nn_95, ↓nn_96, ↓nn_97, ↓nn_98, ↓nn_99, ↓nn_100, ↓nn_101, ↓nn_102, ↓nn_103, ↓nn_104, ↓nn_105, ↓nn_106, ↓nn_107, ↓nn_108, p_bs, p_rq0, p_rq1, p_rz0, p_rz1, p_us, p_un, p_uj, ↓reduceIte, hg', hg'', t_b0]
  cases hr' : t_inr l' (t_ng H')
  · simp only [↓reduceIte]
    exact ⟨_, _, rfl, rfl, hv'⟩
  · obtain ⟨g', hgl', rfl⟩ := t_inrE (by omega) hr'
    have hzt' : hz' = true := by
      cases hz' with
      | true => rfl
      | false => have := (h5' rfl).2; omega
    subst hzt'
    have hW' := h4' rfl
    obtain ⟨r1', r2', -⟩ := hN'.1 rfl
    obtain ⟨w0', w1', w2', w3'⟩ := r2'.1.1 g' (by omega)
    have hl' := s_hasLeft (I' := I') (k' := 53) hB' (.inl rfl) g'
    have ho' : F_X3_ofGuest 39 (Int32.ofNat g') 0 (I', X') = some (t_hg H' (g' * 4)) := s_ofGuest hB' h2' g' 0 (by omega) (by omega)
    have hc' := s_comes hB' h3'' hW' g' hgl'
    have w35' : I' 100 35 = I' 54 0 := r2'.1.2.2.2
    simp (disch := omega) only [↓ce_36 hB', rf_36 hB', ↓ce_39 hB', rf_39 hB', ↓ce_53 hB', rf_53 hB', ↓ce_54 hB', ↓ce_87 hB', rf_87 hB', ↓ce_100 hB', ↓nn_31, ↓nn_33, ↓nn_38, ↓nn_40, ↓nn_41, ↓nn_42, ↓nn_43, ↓nn_44, ↓nn_45, ↓nn_50, ↓nn_52, ↓nn_53, ↓nn_54, ↓nn_55, ↓nn_56, ↓nn_58, ↓nn_64, ↓nn_67, ↓nn_68, ↓nn_84, ↓nn_89, ↓nn_90, ↓nn_91, ↓nn_92, ↓nn_93, ↓nn_94, ↓nn_95, ↓nn_96, ↓nn_97, ↓nn_98, ↓nn_99, ↓nn_100, ↓nn_101, ↓nn_102, ↓nn_103, ↓nn_104, ↓nn_105, ↓nn_106, ↓nn_107, ↓nn_108, p_bs, p_rq0, p_rq1, p_rz0, p_rz1, p_us, p_un, p_uj, ↓reduceIte, Bool.true_eq_false, hl', t_b0, p_ar, w3', t_b1, hc', w0', w35', ho', Nat.add_zero]
    cases hb' : t_bit (I' 54 4) g'
    · simp only [↓reduceIte, Bool.false_eq_true, hb']
      rw [q_mxc (I' 54 0)]
      exact ⟨_, _, rfl, rfl, hv'⟩
    · simp only [Bool.true_eq_false, ↓reduceIte, hb']
      exact ⟨_, _, rfl, rfl, hv'⟩
end PS'
