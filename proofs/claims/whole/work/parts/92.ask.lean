/-! there, serves, fed -/
section PQ'
variable {A' : v_A} {X' : p_X} {I' : p_I}
theorem t_if20 {α : Type} (l' c' : Int32) (k' : Nat) (hk' : k' < 2147483647) (hc' : c' = Int32.ofNat k') (a' b' : α) : (if l' < 0 then a' else if c' < l' then a' else b') = if t_inr l' (k' + 1) = true then b' else a' := by
  subst hc'
  have e0' : (0 : Int32).toInt = 0 := rfl
  have h' : t_inr l' (k' + 1) = (!decide (l' < 0) && !decide (Int32.ofNat k' < l')) := by
    unfold t_inr
    rw [Bool.eq_iff_iff]
    simp only [Bool.and_eq_true, decide_eq_true_eq, Bool.not_eq_true', decide_eq_false_iff_not, Int32.lt_iff_toInt_lt, e0', p_toI k' (by omega), p_toI (k' + 1) (by omega)]
    omega
  rw [h']
  by_cases h1' : l' < 0 <;> by_cases h2' : Int32.ofNat k' < l' <;> simp [h1', h2']
/-- workings of the class and then of the reference -/
theorem v_ask {I1' J' : p_I} {u' : Nat} (h' : v_V A' I' X') (h1' : ∀ c', c' ≠ 63 → c' ≠ 64 → c' ≠ 65 → c' ≠ p_sc X' → c' ≠ 69 → I1' c' = I' c') (h2' : ∀ c', c' ≠ 87 → c' ≠ 91 → c' ≠ 102 → c' ≠ 101 → J' c' = I1' c') (h3' : ∀ j', ¬ t_m87 j' → j' ≠ 0 → J' 87 j' = I1' 87 j') : v_V A' J' (p_T X' u') := by
  obtain ⟨L0', hLC', -⟩ := v_law h'
  have hsc' := p_scN hLC'
  refine v_keep h' ⟨fun c' z1' z2' => ?_, ?_, fun j' z1' z2' z3' z4' z5' z6' z7' => ?_, fun j' _ => ?_, fun j' _ => ?_, fun c' z1' z2' z3' z4' => ?_⟩ u'
  · rw [h2' c' (by omega) (by omega) (by omega) (by omega), h1' c' (by omega) (by omega) (by omega) (by omega) (by omega)]
  · rw [h2' 37 (by omega) (by omega) (by omega) (by omega), h1' 37 (by omega) (by omega) (by omega) (by omega) (by omega)]
  · rw [h3' j' (by omega) z4', h1' 87 (by omega) (by omega) (by omega) (by omega) (by omega)]
  · rw [h2' 98 (by omega) (by omega) (by omega) (by omega), h1' 98 (by omega) (by omega) (by omega) (by omega) (by omega)]
  · rw [h2' 99 (by omega) (by omega) (by omega) (by omega), h1' 99 (by omega) (by omega) (by omega) (by omega) (by omega)]
  · rw [h2' c' (by omega) (by omega) (by omega) (by omega), h1' c' (by omega) (by omega) (by omega) z2' (by omega)]
/-- both sides at a day ahead -/
theorem v_ahead (h' : v_V A' I' X') (hz' : A'.2.1 = true) (n' : Nat) (hn' : n' ≤ 100) : ∃ L' s' I1' J' u', F_X2_layAhead 67 53 (Int32.ofNat n') (I', X') = some ((), (I1', X')) ∧ F_X12_goOn 87 (Int32.ofNat n') (q_u2 I1' 87 0 0, X') = some ((), (J', p_T X' u')) ∧ (∀ c', c' ≠ 63 → c' ≠ 64 → c' ≠ 65 → c' ≠ p_sc X' → c' ≠ 69 → I1' c' = I' c') ∧ (∀ c', c' ≠ 87 → c' ≠ 91 → c' ≠ 102 → c' ≠ 101 → J' c' = I1' c') ∧ (∀ j', ¬ t_m87 j' → j' ≠ 0 → J' 87 j' = I1' 87 j') ∧ t_EV A'.1 (t_yi A'.1 L' s' n') I1' ∧ t_RS (t_yi A'.1 L' s' n') (J' 101) ∧ t_WF A'.1 (t_yi A'.1 L' s' n') ∧ t_yi A'.1 L' s' n' 0 = Int32.ofNat (A'.2.2.1 + n') ∧ t_HM A'.1 J' ∧ t_HM A'.1 (q_u2 I1' 87 0 0) ∧ A'.2.2.1 ≤ 999 := by
  obtain ⟨L', hLC', hLM'⟩ := v_law h'
  have hsc' := p_scN hLC'
  obtain ⟨hB', hS', hT', hH', hN', hP', hG', hC', hL', hLH', hW', hD', hF'⟩ := id h'
  have hHW' := hH'.2.2.2.1 hz'
  obtain ⟨w1', w2', w3', w4', w5', w6'⟩ := hN'.1 hz'
  obtain ⟨I1', s', a1', a2', a3', a4'⟩ := s_ahead (I' := I') (L' := L') hB' hH'.2.1 hHW' hLC' w1' w3' n' (by omega)
  have f' : ∀ c', 70 ≤ c' → c' < 109 → I1' c' = I' c' := fun c' z1' z2' => a3' c' (by omega) (by omega) (by omega) (by omega) (by omega)
  have hM' : t_HM A'.1 (q_u2 I1' 87 0 0) := v_hm h' (by rw [p_uc _ _ _ _ _ (by decide), f' 92 (by decide) (by decide)]) (by rw [p_uc _ _ _ _ _ (by decide), f' 94 (by decide) (by decide)]) (by rw [p_uc _ _ _ _ _ (by decide), f' 96 (by decide) (by decide)]) (by rw [p_uj _ _ _ _ _ (by decide), f' 87 (by decide) (by decide)]) (by rw [p_uj _ _ _ _ _ (by decide), f' 87 (by decide) (by decide)])
  have hWs' : t_WF A'.1 s' := t_WFa w1' a2'
  have hs0' : s' 0 = Int32.ofNat A'.2.2.1 := by rw [a2' 0 (by decide)]; exact w3'
  obtain ⟨J', u', b1', b2', b3', b4'⟩ := s_goOn (I' := q_u2 I1' 87 0 0) (H' := A'.1) (L' := L') (s' := s') hB' (fun c' hc' => by rw [p_uc _ _ _ _ _ (by omega), a3' c' (by omega) (by omega) (by omega) (by omega) (by omega)]; exact hS' c' hc') hM' hHW' hWs' (by rw [p_uc _ _ _ _ _ (by decide), f' 100 (by decide) (by decide)]; exact t_RSa w2' a2' (fun _ _ => rfl)) (t_LMk hLM' (by rw [p_uj _ _ _ _ _ (by decide), f' 87 (by decide) (by decide)]) (by rw [p_uc _ _ _ _ _ (by decide), f' 89 (by decide) (by decide)]) (by rw [p_uc _ _ _ _ _ (by decide), f' 90 (by decide) (by decide)])) hs0' n' (by omega)
  have hw' := t_yiW (L' := L') hHW' hWs' hs0' n' (by omega)
  have b2'' : ∀ c', c' ≠ 87 → c' ≠ 91 → c' ≠ 102 → c' ≠ 101 → J' c' = I1' c' := fun c' z1' z2' z3' z4' => by rw [b2' c' z1' z2' z3' z4', p_uc _ _ _ _ _ z1']
  have b3'' : ∀ j', ¬ t_m87 j' → j' ≠ 0 → J' 87 j' = I1' 87 j' := fun j' z1' z2' => by rw [b3' j' z1', p_uj _ _ _ _ _ z2']
  exact ⟨L', s', I1', J', u', a1', b1', a3', b2'', b3'', a4', b4', hw'.1, hw'.2, t_HMk hM' (b2' 92 (by decide) (by decide) (by decide) (by decide)) (b2' 94 (by decide) (by decide) (by decide) (by decide)) (b2' 96 (by decide) (by decide) (by decide) (by decide)) (b3' 26 (by omega)) (b3' 27 (by omega)), hM', w4'⟩
theorem m_there (h' : v_V A' I' X') (l' : Int32) : ∃ r' I1' J' X1', F_X11_there 36 l' (I', X') = some (r', (I1', X')) ∧ F_X12_there 87 l' (I1', X') = some (r', (J', X1')) ∧ v_V A' J' X1' := by
  have hB' := h'.1
  have hH' := h'.2.2.2.1
  have h18' := hH'.1
  have hin' : ∀ M' : q_Mem, F_X12_isIn l'.toInt64 0 20 M' = some (t_b (t_inr l' 21)) := fun M' => s_isInT l' 20 (by decide) 0 20 rfl rfl M'
  rcases v_t h' with ⟨hz', hR', hHW'⟩ | hz'
  · rw [hz'] at h18'
    cases hr' : t_inr l' 21
    · refine ⟨-1, I', _, X', ?_, ?_, v_thr h'⟩
      · have key' : ∀ o' : Option (Int32 × q_Mem), (if l' < 0 then some ((-1 : Int32), (I', X')) else if 20 < l' then some ((-1 : Int32), (I', X')) else o') = some (-1, (I', X')) := fun o' => by
          rw [t_if20 l' 20 20 (by decide) rfl, hr']; simp
        unfold F_X11_there
        simp (disch := omega) only [↓ce_36 hB', rf_36 hB', ↓nn_38, ↓nn_40, ↓nn_45, ↓nn_50, ↓nn_52, ↓nn_53, ↓nn_54, ↓nn_56, ↓nn_58, ↓nn_64, ↓nn_67, ↓nn_68, ↓nn_84, p_bs, p_rq0, p_rq1, p_rz0, p_rz1, p_us, p_un, p_uj, ↓reduceIte, h18', t_b0, Bool.true_eq_false]
        exact key' _
      · unfold F_X12_there
        simp (disch := omega) only [↓ce_87 hB', rf_87 hB', ↓nn_31, ↓nn_33, ↓nn_89, ↓nn_90, ↓nn_91, ↓nn_92, ↓nn_93, ↓nn_94, ↓nn_95, ↓nn_96, ↓nn_97, ↓nn_98, ↓nn_99, ↓nn_100, ↓nn_101, ↓nn_102, ↓nn_103, ↓nn_104, ↓nn_105, ↓nn_106, ↓nn_107, ↓nn_108, p_bs, p_rq0, p_rq1, p_rz0, p_rz1, p_us, p_un, p_uj, ↓reduceIte, (v_thr h').2.2.2.1.2.2.1.2.2.2.2, v_ng0 hHW', hin', hr', t_b0]
    · obtain ⟨n', hn', rfl⟩ := t_inrE (by decide) hr'
      obtain ⟨L', s', I1', J', u', a1', a2', a3', a4', a5', a6', a7', a8', a9', a10', a11', a12'⟩ := v_ahead h' hz' n' (by omega)
      have hn0' : (Int32.ofNat n' < 0) = False := by
        have := p_lt n' 0 (by omega) (by omega)
        rw [show (0 : Int32) = Int32.ofNat 0 from rfl, this]
        simp
      have hn20' : (20 < Int32.ofNat n') = False := by
        rw [show (20 : Int32) = Int32.ofNat 20 from rfl, p_lt 20 n' (by omega) (by omega)]
        apply eq_false
        omega
      have hB'' := p_BT hB' u'
      have ht' := s_thereBits (X' := p_T X' u') (c' := 101) hB'' a10' hHW' a8' (.inr rfl) a7'.1
      refine ⟨t_B (t_tp A'.1 (t_yi A'.1 L' s' n')), I1', J', p_T X' u', ?_, ?_, v_ask h' a3' a4' a5'⟩
      · unfold F_X11_there
        simp (disch := omega) only [↓ce_36 hB', rf_36 hB', ↓ce_67 hB', rf_67 hB', ↓ce_63 hB', rf_63 hB', ↓nn_38, ↓nn_40, ↓nn_45, ↓nn_50, ↓nn_52, ↓nn_53, ↓nn_54, ↓nn_56, ↓nn_58, ↓nn_64, ↓nn_65, ↓nn_66, ↓nn_67, ↓nn_68, ↓nn_69, ↓nn_71, ↓nn_72, ↓nn_73, ↓nn_84, p_bs, p_rq0, p_rq1, p_rz0, p_rz1, p_us, p_un, p_uj, ↓reduceIte, h18', t_b0, Bool.true_eq_false, hn0', hn20', a1', a6'.1]
      · unfold F_X12_there
        simp (disch := omega) only [↓ce_87 hB', rf_87 hB', ↓nn_31, ↓nn_33, ↓nn_89, ↓nn_90, ↓nn_91, ↓nn_92, ↓nn_93, ↓nn_94, ↓nn_95, ↓nn_96, ↓nn_97, ↓nn_98, ↓nn_99, ↓nn_100, ↓nn_101, ↓nn_102, ↓nn_103, ↓nn_104, ↓nn_105, ↓nn_106, ↓nn_107, ↓nn_108, p_bs, p_rq0, p_rq1, p_rz0, p_rz1, p_us, p_un, p_uj, ↓reduceIte, a11'.2.2.2.2, v_ng0 hHW', hin', hr', t_b0, Bool.true_eq_false, a2']
        have hB' := hB''
        simp (disch := omega) only [↓ce_87 hB', rf_87 hB', ↓nn_31, ↓nn_33, ↓nn_89, ↓nn_90, ↓nn_91, ↓nn_92, ↓nn_93, ↓nn_94, ↓nn_95, ↓nn_96, ↓nn_97, ↓nn_98, ↓nn_99, ↓nn_100, ↓nn_101, ↓nn_102, ↓nn_103, ↓nn_104, ↓nn_105, ↓nn_106, ↓nn_107, ↓nn_108, p_bs, p_rq0, p_rq1, p_rz0, p_rz1, p_us, p_un, p_uj, ↓reduceIte, ht']
  · rw [hz'] at h18'
    refine ⟨-1, I', _, X', ?_, ?_, v_thr h'⟩
    · unfold F_X11_there
      simp (disch := omega) only [↓ce_36 hB', rf_36 hB', ↓nn_38, ↓nn_40, ↓nn_45, ↓nn_50, ↓nn_52, ↓nn_53, ↓nn_54, ↓nn_56, ↓nn_58, ↓nn_64, ↓nn_67, ↓nn_68, ↓nn_84, p_bs, p_rq0, p_rq1, p_rz0, p_rz1, p_us, p_un, p_uj, ↓reduceIte, h18', t_b0]
    · have := (v_thr h').2.2.2.1.2.2.1.2.2.2.2
      rw [(v_zf h' hz').2] at this
      unfold F_X12_there
      simp (disch := omega) only [↓ce_87 hB', rf_87 hB', ↓nn_31, ↓nn_33, ↓nn_89, ↓nn_90, ↓nn_91, ↓nn_92, ↓nn_93, ↓nn_94, ↓nn_95, ↓nn_96, ↓nn_97, ↓nn_98, ↓nn_99, ↓nn_100, ↓nn_101, ↓nn_102, ↓nn_103, ↓nn_104, ↓nn_105, ↓nn_106, ↓nn_107, ↓nn_108, p_bs, p_rq0, p_rq1, p_rz0, p_rz1, p_us, p_un, p_uj, ↓reduceIte, this, show Int32.ofNat 0 = 0 from rfl]
theorem m_serves (h' : v_V A' I' X') (l' k' : Int32) : ∃ r' I1' J' X1', F_X11_serves 36 l' k' (I', X') = some (r', (I1', X')) ∧ F_X12_serves_ 87 l' k' (I1', X') = some (r', (J', X1')) ∧ v_V A' J' X1' := by
  have hB' := h'.1
  have hH' := h'.2.2.2.1
  have h18' := hH'.1
  have hin' : ∀ M' : q_Mem, F_X12_isIn l'.toInt64 0 20 M' = some (t_b (t_inr l' 21)) := fun M' => s_isInT l' 20 (by decide) 0 20 rfl rfl M'
  have hin2' : ∀ M' : q_Mem, F_X12_isIn k'.toInt64 0 2 M' = some (t_b (t_inr k' 3)) := fun M' => s_isInT k' 2 (by decide) 0 2 rfl rfl M'
  rcases v_t h' with ⟨hz', hR', hHW'⟩ | hz'
  · rw [hz'] at h18'
    cases hr' : t_inr l' 21
    · refine ⟨-1, I', _, X', ?_, ?_, v_thr h'⟩
      · have key' : ∀ o' : Option (Int32 × q_Mem), (if l' < 0 then some ((-1 : Int32), (I', X')) else if 20 < l' then some ((-1 : Int32), (I', X')) else o') = some (-1, (I', X')) := fun o' => by
          rw [t_if20 l' 20 20 (by decide) rfl, hr']; simp
        unfold F_X11_serves
        simp (disch := omega) only [↓ce_36 hB', rf_36 hB', ↓nn_38, ↓nn_40, ↓nn_45, ↓nn_50, ↓nn_52, ↓nn_53, ↓nn_54, ↓nn_56, ↓nn_58, ↓nn_64, ↓nn_67, ↓nn_68, ↓nn_84, p_bs, p_rq0, p_rq1, p_rz0, p_rz1, p_us, p_un, p_uj, ↓reduceIte, h18', t_b0, Bool.true_eq_false]
        exact key' _
      · unfold F_X12_serves_
        simp (disch := omega) only [↓ce_87 hB', rf_87 hB', ↓nn_31, ↓nn_33, ↓nn_89, ↓nn_90, ↓nn_91, ↓nn_92, ↓nn_93, ↓nn_94, ↓nn_95, ↓nn_96, ↓nn_97, ↓nn_98, ↓nn_99, ↓nn_100, ↓nn_101, ↓nn_102, ↓nn_103, ↓nn_104, ↓nn_105, ↓nn_106, ↓nn_107, ↓nn_108, p_bs, p_rq0, p_rq1, p_rz0, p_rz1, p_us, p_un, p_uj, ↓reduceIte, (v_thr h').2.2.2.1.2.2.1.2.2.2.2, v_ng0 hHW', hin', hr', t_b0]
    · obtain ⟨n', hn', rfl⟩ := t_inrE (by decide) hr'
      obtain ⟨L', s', I1', J', u', a1', a2', a3', a4', a5', a6', a7', a8', a9', a10', a11', a12'⟩ := v_ahead h' hz' n' (by omega)
      have hn0' : (Int32.ofNat n' < 0) = False := by
        have := p_lt n' 0 (by omega) (by omega)
        rw [show (0 : Int32) = Int32.ofNat 0 from rfl, this]
        simp
      have hn20' : (20 < Int32.ofNat n') = False := by
        rw [show (20 : Int32) = Int32.ofNat 20 from rfl, p_lt 20 n' (by omega) (by omega)]
        apply eq_false
        omega
      have hB'' := p_BT hB' u'
      obtain ⟨K', k1', k2', k3', k4', k5'⟩ := s_goTable (X' := p_T X' u') (I' := J') (c' := 101) (s' := t_yi A'.1 L' s' n') hB'' a10' hHW' a8' (.inr rfl) a7' a9' (by omega)
      obtain ⟨m1', m2', m3', m4', m5'⟩ := k4'
      obtain ⟨e1', e2', e3', e4', e5', e6', e7', e8', e9'⟩ := a6'
      have hvK' : v_V A' K' (p_T X' u') := v_ask h' a3' (fun c' z1' z2' z3' z4' => by rw [k2' c' z1' z3' z4']; exact a4' c' z1' z2' z3' z4') (fun j' z1' z2' => by rw [k3' j' (by omega) (by omega) (by omega) (by omega)]; exact a5' j' z1' z2')
      have hv0' : v_V A' (q_u2 I1' 87 0 0) (p_T X' (X'.2.1 87 5)) := v_ask h' a3' (fun c' z1' z2' z3' z4' => p_uc _ _ _ _ _ z1') (fun j' z1' z2' => p_uj _ _ _ _ _ z2')
      rw [p_Ts] at hv0'
      cases hk' : t_inr k' 3
      · have nk0' : (k' = 0) = False := eq_false (fun e' => by subst e'; exact absurd hk' (by decide))
        have nk1' : (k' = 1) = False := eq_false (fun e' => by subst e'; exact absurd hk' (by decide))
        have nk2' : (k' = 2) = False := eq_false (fun e' => by subst e'; exact absurd hk' (by decide))
        refine ⟨-1, I1', _, X', ?_, ?_, hv0'⟩
        · unfold F_X11_serves
          simp (disch := omega) only [↓ce_36 hB', rf_36 hB', ↓ce_67 hB', rf_67 hB', ↓ce_63 hB', rf_63 hB', ↓nn_38, ↓nn_40, ↓nn_45, ↓nn_50, ↓nn_52, ↓nn_53, ↓nn_54, ↓nn_56, ↓nn_58, ↓nn_64, ↓nn_65, ↓nn_66, ↓nn_67, ↓nn_68, ↓nn_69, ↓nn_71, ↓nn_72, ↓nn_73, ↓nn_84, p_bs, p_rq0, p_rq1, p_rz0, p_rz1, p_us, p_un, p_uj, ↓reduceIte, h18', t_b0, Bool.true_eq_false, hn0', hn20', a1', e4', nk0', nk1', nk2']
          simp
        · unfold F_X12_serves_
          simp (disch := omega) only [↓ce_87 hB', rf_87 hB', ↓nn_31, ↓nn_33, ↓nn_89, ↓nn_90, ↓nn_91, ↓nn_92, ↓nn_93, ↓nn_94, ↓nn_95, ↓nn_96, ↓nn_97, ↓nn_98, ↓nn_99, ↓nn_100, ↓nn_101, ↓nn_102, ↓nn_103, ↓nn_104, ↓nn_105, ↓nn_106, ↓nn_107, ↓nn_108, p_bs, p_rq0, p_rq1, p_rz0, p_rz1, p_us, p_un, p_uj, ↓reduceIte, a11'.2.2.2.2, v_ng0 hHW', hin', hr', hin2', hk', t_b0, Bool.true_eq_false]
      · obtain ⟨q', hq', rfl⟩ := t_inrE (by decide) hk'
        by_cases hd' : t_ds A'.1 (t_yi A'.1 L' s' n') = -1
        · refine ⟨-1, I1', K', p_T X' u', ?_, ?_, hvK'⟩
          · unfold F_X11_serves
            simp (disch := omega) only [↓ce_36 hB', rf_36 hB', ↓ce_67 hB', rf_67 hB', ↓ce_63 hB', rf_63 hB', ↓nn_38, ↓nn_40, ↓nn_45, ↓nn_50, ↓nn_52, ↓nn_53, ↓nn_54, ↓nn_56, ↓nn_58, ↓nn_64, ↓nn_65, ↓nn_66, ↓nn_67, ↓nn_68, ↓nn_69, ↓nn_71, ↓nn_72, ↓nn_73, ↓nn_84, p_bs, p_rq0, p_rq1, p_rz0, p_rz1, p_us, p_un, p_uj, ↓reduceIte, h18', t_b0, Bool.true_eq_false, hn0', hn20', a1', e4', hd']
          · unfold F_X12_serves_
            simp (disch := omega) only [↓ce_87 hB', rf_87 hB', ↓nn_31, ↓nn_33, ↓nn_89, ↓nn_90, ↓nn_91, ↓nn_92, ↓nn_93, ↓nn_94, ↓nn_95, ↓nn_96, ↓nn_97, ↓nn_98, ↓nn_99, ↓nn_100, ↓nn_101, ↓nn_102, ↓nn_103, ↓nn_104, ↓nn_105, ↓nn_106, ↓nn_107, ↓nn_108, p_bs, p_rq0, p_rq1, p_rz0, p_rz1, p_us, p_un, p_uj, ↓reduceIte, a11'.2.2.2.2, v_ng0 hHW', hin', hr', hin2', hk', t_b0, Bool.true_eq_false, a2']
            have hB' := hB''
            simp (disch := omega) only [↓ce_87 hB', rf_87 hB', ↓nn_31, ↓nn_33, ↓nn_89, ↓nn_90, ↓nn_91, ↓nn_92, ↓nn_93, ↓nn_94, ↓nn_95, ↓nn_96, ↓nn_97, ↓nn_98, ↓nn_99, ↓nn_100, ↓nn_101, ↓nn_102, ↓nn_103, ↓nn_104, ↓nn_105, ↓nn_106, ↓nn_107, ↓nn_108, p_bs, p_rq0, p_rq1, p_rz0, p_rz1, p_us, p_un, p_uj, ↓reduceIte, k1', m1', hd']
        · refine ⟨if q' = 0 then t_ds A'.1 (t_yi A'.1 L' s' n') else if q' = 1 then t_wm A'.1 (t_yi A'.1 L' s' n') else t_sv A'.1 (t_yi A'.1 L' s' n'), I1', K', p_T X' u', ?_, ?_, hvK'⟩
          · unfold F_X11_serves
            match q', hq' with
            | 0, _ => simp (disch := omega) only [↓ce_36 hB', rf_36 hB', ↓ce_67 hB', rf_67 hB', ↓ce_63 hB', rf_63 hB', ↓nn_38, ↓nn_40, ↓nn_45, ↓nn_50, ↓nn_52, ↓nn_53, ↓nn_54, ↓nn_56, ↓nn_58, ↓nn_64, ↓nn_65, ↓nn_66, ↓nn_67, ↓nn_68, ↓nn_69, ↓nn_71, ↓nn_72, ↓nn_73, ↓nn_84, p_bs, p_rq0, p_rq1, p_rz0, p_rz1, p_us, p_un, p_uj, ↓reduceIte, h18', t_b0, Bool.true_eq_false, hn0', hn20', a1', e4', hd', show (Int32.ofNat 0 = 0) = True from by decide]
            | 1, _ =>
              simp (disch := omega) only [↓ce_36 hB', rf_36 hB', ↓ce_67 hB', rf_67 hB', ↓ce_63 hB', rf_63 hB', ↓nn_38, ↓nn_40, ↓nn_45, ↓nn_50, ↓nn_52, ↓nn_53, ↓nn_54, ↓nn_56, ↓nn_58, ↓nn_64, ↓nn_65, ↓nn_66, ↓nn_67, ↓nn_68, ↓nn_69, ↓nn_71, ↓nn_72, ↓nn_73, ↓nn_84, p_bs, p_rq0, p_rq1, p_rz0, p_rz1, p_us, p_un, p_uj, ↓reduceIte, h18', t_b0, Bool.true_eq_false, hn0', hn20', a1', e4', e5', hd', show (Int32.ofNat 1 = 0) = False from by decide, show (Int32.ofNat 1 = 1) = True from by decide]
              simp
            | 2, _ =>
              simp (disch := omega) only [↓ce_36 hB', rf_36 hB', ↓ce_67 hB', rf_67 hB', ↓ce_63 hB', rf_63 hB', ↓nn_38, ↓nn_40, ↓nn_45, ↓nn_50, ↓nn_52, ↓nn_53, ↓nn_54, ↓nn_56, ↓nn_58, ↓nn_64, ↓nn_65, ↓nn_66, ↓nn_67, ↓nn_68, ↓nn_69, ↓nn_71, ↓nn_72, ↓nn_73, ↓nn_84, p_bs, p_rq0, p_rq1, p_rz0, p_rz1, p_us, p_un, p_uj, ↓reduceIte, h18', t_b0, Bool.true_eq_false, hn0', hn20', a1', e4', e6', hd', show (Int32.ofNat 2 = 0) = False from by decide, show (Int32.ofNat 2 = 1) = False from by decide, show (Int32.ofNat 2 = 2) = True from by decide]
              simp
          · unfold F_X12_serves_
            simp (disch := omega) only [↓ce_87 hB', rf_87 hB', ↓nn_31, ↓nn_33, ↓nn_89, ↓nn_90, ↓nn_91, ↓nn_92, ↓nn_93, ↓nn_94, ↓nn_95, ↓nn_96, ↓nn_97, ↓nn_98, ↓nn_99, ↓nn_100, ↓nn_101, ↓nn_102, ↓nn_103, ↓nn_104, ↓nn_105, ↓nn_106, ↓nn_107, ↓nn_108, p_bs, p_rq0, p_rq1, p_rz0, p_rz1, p_us, p_un, p_uj, ↓reduceIte, a11'.2.2.2.2, v_ng0 hHW', hin', hr', hin2', hk', t_b0, Bool.true_eq_false, a2']
            have hB' := hB''
            match q', hq' with
            | 0, _ => simp (disch := omega) only [↓ce_87 hB', rf_87 hB', ↓nn_31, ↓nn_33, ↓nn_89, ↓nn_90, ↓nn_91, ↓nn_92, ↓nn_93, ↓nn_94, ↓nn_95, ↓nn_96, ↓nn_97, ↓nn_98, ↓nn_99, ↓nn_100, ↓nn_101, ↓nn_102, ↓nn_103, ↓nn_104, ↓nn_105, ↓nn_106, ↓nn_107, ↓nn_108, p_bs, p_rq0, p_rq1, p_rz0, p_rz1, p_us, p_un, p_uj, ↓reduceIte, k1', m1', hd', show (Int32.ofNat 0 = 0) = True from by decide]
            | 1, _ =>
              simp (disch := omega) only [↓ce_87 hB', rf_87 hB', ↓nn_31, ↓nn_33, ↓nn_89, ↓nn_90, ↓nn_91, ↓nn_92, ↓nn_93, ↓nn_94, ↓nn_95, ↓nn_96, ↓nn_97, ↓nn_98, ↓nn_99, ↓nn_100, ↓nn_101, ↓nn_102, ↓nn_103, ↓nn_104, ↓nn_105, ↓nn_106, ↓nn_107, ↓nn_108, p_bs, p_rq0, p_rq1, p_rz0, p_rz1, p_us, p_un, p_uj, ↓reduceIte, k1', m1', m2', hd', show (Int32.ofNat 1 = 0) = False from by decide, show (Int32.ofNat 1 = 1) = True from by decide]
              simp
            | 2, _ =>
              simp (disch := omega) only [↓ce_87 hB', rf_87 hB', ↓nn_31, ↓nn_33, ↓nn_89, ↓nn_90, ↓nn_91, ↓nn_92, ↓nn_93, ↓nn_94, ↓nn_95, ↓nn_96, ↓nn_97, ↓nn_98, ↓nn_99, ↓nn_100, ↓nn_101, ↓nn_102, ↓nn_103, ↓nn_104, ↓nn_105, ↓nn_106, ↓nn_107, ↓nn_108, p_bs, p_rq0, p_rq1, p_rz0, p_rz1, p_us, p_un, p_uj, ↓reduceIte, k1', m1', m3', hd', show (Int32.ofNat 2 = 0) = False from by decide, show (Int32.ofNat 2 = 1) = False from by decide]
              simp
  · rw [hz'] at h18'
    refine ⟨-1, I', _, X', ?_, ?_, v_thr h'⟩
    · unfold F_X11_serves
      simp (disch := omega) only [↓ce_36 hB', rf_36 hB', ↓nn_38, ↓nn_40, ↓nn_45, ↓nn_50, ↓nn_52, ↓nn_53, ↓nn_54, ↓nn_56, ↓nn_58, ↓nn_64, ↓nn_67, ↓nn_68, ↓nn_84, p_bs, p_rq0, p_rq1, p_rz0, p_rz1, p_us, p_un, p_uj, ↓reduceIte, h18', t_b0]
    · have := (v_thr h').2.2.2.1.2.2.1.2.2.2.2
      rw [(v_zf h' hz').2] at this
      unfold F_X12_serves_
      simp (disch := omega) only [↓ce_87 hB', rf_87 hB', ↓nn_31, ↓nn_33, ↓nn_89, ↓nn_90, ↓nn_91, ↓nn_92, ↓nn_93, ↓nn_94, ↓nn_95, ↓nn_96, ↓nn_97, ↓nn_98, ↓nn_99, ↓nn_100, ↓nn_101, ↓nn_102, ↓nn_103, ↓nn_104, ↓nn_105, ↓nn_106, ↓nn_107, ↓nn_108, p_bs, p_rq0, p_rq1, p_rz0, p_rz1, p_us, p_un, p_uj, ↓reduceIte, this, show Int32.ofNat 0 = 0 from rfl]
theorem m_fed (h' : v_V A' I' X') (l' : Int32) : ∃ r' I1' J' X1', F_X11_fed 36 l' (I', X') = some (r', (I1', X')) ∧ F_X12_fed 87 l' (I1', X') = some (r', (J', X1')) ∧ v_V A' J' X1' := by
  have hB' := h'.1
  obtain ⟨L', hLC', hLM'⟩ := v_law h'
  have hsc' := p_scN hLC'
  have hH' := h'.2.2.2.1
  have hg' := s_hasGuest hB' hH'.2.1 l'
  have hg'' := s_isGuest hB' (v_thr h').2.2.2.1.2.2.1 l'
  have hng6' : t_ng A'.1 ≤ 6 := hH'.2.1.2.2.2.2.2.2.2
  cases hr' : t_inr l' (t_ng A'.1)
  · refine ⟨-1, I', _, X', ?_, ?_, v_thr h'⟩
    · unfold F_X11_fed
      simp (disch := omega) only [↓ce_36 hB', rf_36 hB', ↓ce_39 hB', rf_39 hB', ↓nn_38, ↓nn_40, ↓nn_41, ↓nn_42, ↓nn_43, ↓nn_44, ↓nn_45, ↓nn_50, ↓nn_52, ↓nn_53, ↓nn_54, ↓nn_56, ↓nn_58, ↓nn_64, ↓nn_67, ↓nn_68, ↓nn_84, p_bs, p_rq0, p_rq1, p_rz0, p_rz1, p_us, p_un, p_uj, ↓reduceIte, hg', hr', t_b0]
    · unfold F_X12_fed
      simp (disch := omega) only [↓ce_87 hB', rf_87 hB', ↓nn_31, ↓nn_33, ↓nn_89, ↓nn_90, ↓nn_91, ↓nn_92, ↓nn_93, ↓nn_94, ↓nn_95, ↓nn_96, ↓nn_97, ↓nn_98, ↓nn_99, ↓nn_100, ↓nn_101, ↓nn_102, ↓nn_103, ↓nn_104, ↓nn_105, ↓nn_106, ↓nn_107, ↓nn_108, p_bs, p_rq0, p_rq1, p_rz0, p_rz1, p_us, p_un, p_uj, ↓reduceIte, hg'', hr', t_b0]
  · obtain ⟨g', hgl', rfl⟩ := t_inrE (by omega) hr'
    have hz' : A'.2.1 = true := by
      cases hz' : A'.2.1
      · have := (v_zf h' hz').2; omega
      · rfl
    have hHW' := hH'.2.2.2.1 hz'
    obtain ⟨w1', w2', w3', w4', w5', w6'⟩ := h'.2.2.2.2.1.1 hz'
    have hth' : F_X1_isThere 63 53 (Int32.ofNat g') (I', X') = some (t_b (t_th A'.1 (I' 54) g')) := s_isThere (k' := 53) hB' hH'.2.1 (by omega) g' (by omega)
    cases ht' : t_th A'.1 (I' 54) g'
    · have hth'' := s_misThere (I' := q_u2 I' 87 0 0) (s' := I' 54) (c' := 100) hB' (v_thr h').2.2.2.1.2.2.1 hHW' w1' (.inl rfl) (by rw [p_uc _ _ _ _ _ (by decide)]; exact w2'.1) g' hgl'
      refine ⟨-1, I', _, X', ?_, ?_, v_thr h'⟩
      · unfold F_X11_fed
        simp (disch := omega) only [↓ce_36 hB', rf_36 hB', ↓ce_39 hB', rf_39 hB', ↓ce_63 hB', rf_63 hB', ↓ce_53 hB', rf_53 hB', ↓nn_38, ↓nn_40, ↓nn_41, ↓nn_42, ↓nn_43, ↓nn_44, ↓nn_45, ↓nn_50, ↓nn_52, ↓nn_53, ↓nn_54, ↓nn_55, ↓nn_56, ↓nn_58, ↓nn_64, ↓nn_65, ↓nn_66, ↓nn_67, ↓nn_68, ↓nn_84, p_bs, p_rq0, p_rq1, p_rz0, p_rz1, p_us, p_un, p_uj, ↓reduceIte, hg', hr', hth', ht', t_b0, Bool.true_eq_false]
      · unfold F_X12_fed
        simp (disch := omega) only [↓ce_87 hB', rf_87 hB', ↓nn_31, ↓nn_33, ↓nn_89, ↓nn_90, ↓nn_91, ↓nn_92, ↓nn_93, ↓nn_94, ↓nn_95, ↓nn_96, ↓nn_97, ↓nn_98, ↓nn_99, ↓nn_100, ↓nn_101, ↓nn_102, ↓nn_103, ↓nn_104, ↓nn_105, ↓nn_106, ↓nn_107, ↓nn_108, p_bs, p_rq0, p_rq1, p_rz0, p_rz1, p_us, p_un, p_uj, ↓reduceIte, hg'', hr', hth'', ht', t_b0, Bool.true_eq_false]
    · obtain ⟨I1', a1', a2', a3'⟩ := s_lay (I' := I') (k' := 53) hB' hH'.2.1 hHW' (by omega) w1'
      have a3'' : t_EV A'.1 (I' 54) I1' := a3'
      have f' : ∀ c', c' ≠ 63 → c' ≠ 64 → c' ≠ 87 → q_u2 I1' 87 0 0 c' = I' c' := fun c' z1' z2' z3' => by rw [p_uc _ _ _ _ _ z3']; exact a2' c' z1' z2'
      have f87' : ∀ j', j' ≠ 0 → q_u2 I1' 87 0 0 87 j' = I' 87 j' := fun j' hj' => by rw [p_uj _ _ _ _ _ hj', a2' 87 (by decide) (by decide)]
      have hM' : t_HM A'.1 (q_u2 I1' 87 0 0) := v_hm h' (f' _ (by decide) (by decide) (by decide)) (f' _ (by decide) (by decide) (by decide)) (f' _ (by decide) (by decide) (by decide)) (f87' _ (by decide)) (f87' _ (by decide))
      have hg2' := s_isGuest hB' hM' (Int32.ofNat g')
      have hth'' := s_misThere (I' := q_u2 I1' 87 0 0) (s' := I' 54) (c' := 100) hB' hM' hHW' w1' (.inl rfl) (by rw [f' 100 (by decide) (by decide) (by decide)]; exact w2'.1) g' hgl'
      obtain ⟨J', u', b1', b2', b3', b4'⟩ := s_goOn (I' := q_u2 I1' 87 0 0) (H' := A'.1) (L' := L') (s' := I' 54) hB' (fun c' hc' => by rw [f' c' (by omega) (by omega) (by omega)]; exact h'.2.1 c' hc') hM' hHW' w1' (by rw [f' 100 (by decide) (by decide) (by decide)]; exact w2') (t_LMk hLM' (f87' _ (by decide)) (f' _ (by decide) (by decide) (by decide)) (f' _ (by decide) (by decide) (by decide))) w3' 0 (by omega)
      have b1'' : F_X12_goOn 87 0 (q_u2 I1' 87 0 0, X') = some ((), (J', p_T X' u')) := b1'
      have hB'' := p_BT hB' u'
      obtain ⟨K', k1', k2', k3', k4', k5'⟩ := s_goTable (X' := p_T X' u') (I' := J') (c' := 101) (s' := I' 54) hB'' (t_HMk hM' (b2' 92 (by decide) (by decide) (by decide) (by decide)) (b2' 94 (by decide) (by decide) (by decide) (by decide)) (b2' 96 (by decide) (by decide) (by decide) (by decide)) (b3' 26 (by omega)) (b3' 27 (by omega))) hHW' w1' (.inr rfl) b4' w3' (by omega)
      have e9' := a3''.2.2.2.2.2.2.2.2 g' hgl'
      have m5' := k4'.2.2.2.2 g' (by omega)
      refine ⟨t_pl A'.1 (I' 54) g', I1', K', p_T X' u', ?_, ?_, v_ask h' (fun c' z1' z2' z3' z4' z5' => a2' c' z1' z2') (fun c' z1' z2' z3' z4' => by rw [k2' c' z1' z3' z4', b2' c' z1' z2' z3' z4', p_uc _ _ _ _ _ z1']) (fun j' z1' z2' => by rw [k3' j' (by omega) (by omega) (by omega) (by omega), b3' j' z1', p_uj _ _ _ _ _ z2'])⟩
      · unfold F_X11_fed
        simp (disch := omega) only [↓ce_36 hB', rf_36 hB', ↓ce_39 hB', rf_39 hB', ↓ce_63 hB', rf_63 hB', ↓ce_53 hB', rf_53 hB', ↓ce_64 hB', ↓nn_38, ↓nn_40, ↓nn_41, ↓nn_42, ↓nn_43, ↓nn_44, ↓nn_45, ↓nn_50, ↓nn_52, ↓nn_53, ↓nn_54, ↓nn_55, ↓nn_56, ↓nn_58, ↓nn_64, ↓nn_65, ↓nn_66, ↓nn_67, ↓nn_68, ↓nn_84, p_bs, p_rq0, p_rq1, p_rz0, p_rz1, p_us, p_un, p_uj, ↓reduceIte, hg', hr', hth', ht', t_b0, Bool.true_eq_false, a1', e9']
      · unfold F_X12_fed F_X12_tableNow
        simp (disch := omega) only [↓ce_87 hB', rf_87 hB', ↓nn_31, ↓nn_33, ↓nn_89, ↓nn_90, ↓nn_91, ↓nn_92, ↓nn_93, ↓nn_94, ↓nn_95, ↓nn_96, ↓nn_97, ↓nn_98, ↓nn_99, ↓nn_100, ↓nn_101, ↓nn_102, ↓nn_103, ↓nn_104, ↓nn_105, ↓nn_106, ↓nn_107, ↓nn_108, p_bs, p_rq0, p_rq1, p_rz0, p_rz1, p_us, p_un, p_uj, ↓reduceIte, hg2', hr', hth'', ht', t_b0, Bool.true_eq_false, b1'']
        have hB' := hB''
        simp (disch := omega) only [↓ce_87 hB', rf_87 hB', ↓ce_102 hB', ↓nn_31, ↓nn_33, ↓nn_89, ↓nn_90, ↓nn_91, ↓nn_92, ↓nn_93, ↓nn_94, ↓nn_95, ↓nn_96, ↓nn_97, ↓nn_98, ↓nn_99, ↓nn_100, ↓nn_101, ↓nn_102, ↓nn_103, ↓nn_104, ↓nn_105, ↓nn_106, ↓nn_107, ↓nn_108, p_bs, p_rq0, p_rq1, p_rz0, p_rz1, p_us, p_un, p_uj, ↓reduceIte, k1', m5']
end PQ'
