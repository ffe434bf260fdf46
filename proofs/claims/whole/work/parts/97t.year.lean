/-! a year's day: the reference -/
section PD'
variable {X' : p_X} {R' : p_I} {H' : t_H} {L' : t_L} {s' : Nat → Int32} {dx' : Int64 → Int64} {dv' : Int64 → Int32 → Int32}
theorem s_mY2 (hdM' : yq_HM dx' dv') (hdN' : yq_HN dv') (hB' : p_B X') (hM' : t_HM H' R') (hW' : t_HW H') (hG' : t_GS H' s') (hR' : t_RS s' (R' 100)) (n' i' : Int32) : ∃ R'', J_X12_years_93_49 87 n' i' (R', X') = J_X12_years_160_49 87 n' i' (R'', p_L X' 87 43 (yq_y2 H' L' dx' dv' s' (X'.1 87 43)).2) ∧ (∀ c', c' ≠ 100 → R'' c' = R' c') ∧ (∀ j', 36 ≤ j' → R'' 100 j' = R' 100 j') ∧ t_RS (yq_y2 H' L' dx' dv' s' (X'.1 87 43)).1 (R'' 100) := by
  have hnd' := hW'.2.1
  have hng' := hW'.2.2.2.1
  generalize hx' : X'.1 87 43 = x'
  have d1' := hdM' X' R' _ hB' hW'.1 (show t_nd H' ≤ 10 by omega)
  rw [hx'] at d1'
  unfold yq_y2
  obtain ⟨d', hd', ed'⟩ := hdN' (dx' x') _ hW'.1 (show t_nd H' ≤ 10 by omega)
  rw [ed'] at d1' ⊢
  generalize dx' x' = x1' at *
  have hB1' := p_BL hB' 87 43 x1'
  have e100 : q_u2 R' 100 34 (1 + Int32.ofNat d') 100 = va_up (R' 100) 34 (Int32.ofNat d' + 1) := by rw [p_ur, Int32.add_comm]
  generalize hI1' : q_u2 R' 100 34 (1 + Int32.ofNat d') = R1' at e100
  have f1' : ∀ c', c' ≠ 100 → R1' c' = R' c' := fun c' hc' => by rw [← hI1']; exact p_uc _ _ _ _ _ hc'
  have g1' : ∀ j', 36 ≤ j' → R1' 100 j' = R' 100 j' := fun j' hj' => by rw [e100]; exact p_vn _ _ _ _ (by omega)
  have d2' := hdM' (p_L X' 87 43 x1') R1' 10 hB1' (by decide) (by decide)
  rw [p_Lv, p_LL] at d2'
  have hB2' := p_BL hB' 87 43 (dx' x1')
  have d3' := hdM' (p_L X' 87 43 (dx' x1')) R1' _ hB2' hW'.2.2.1 (show t_ng H' ≤ 10 by omega)
  rw [p_Lv, p_LL] at d3'
  have hB3' := p_BL hB' 87 43 (dx' (dx' x1'))
  have d2'' : F_X12_draw 87 10 (R1', p_L X' 87 43 x1') = some (dv' (dx' x1') (Int32.ofNat 10), (R1', p_L X' 87 43 (dx' x1'))) := d2'
  have n4' : R' 87 26 = Int32.ofNat (t_nd H') := hM'.2.2.2.1
  have n5' : R1' 87 27 = Int32.ofNat (t_ng H') := by rw [f1' 87 (by decide)]; exact hM'.2.2.2.2
  have ht' : ∀ f' : q_Mem → Option ((Int32 × q_Mem) ⊕ q_Mem), q_tI (R', p_L X' 87 43 x1') 100 34 (1 + Int32.ofNat d') f' = f' (R1', p_L X' 87 43 x1') := fun f' => by
    rw [← hI1']
    exact p_tI (sh_100 hB1') (by decide) (by decide) R' 34 _ f' (by decide)
  have hGS1' : t_GS H' (va_up s' 3 (Int32.ofNat d')) := t_GSc hW' hG' hd'
  have hR1' : t_RS (va_up s' 3 (Int32.ofNat d')) (R1' 100) := by rw [e100]; exact t_RSu3 hR' _
  have hM1' : t_HM H' R1' := t_HMk hM' (f1' 92 (by decide)) (f1' 94 (by decide)) (f1' 96 (by decide)) (by rw [f1' 87 (by decide)]) (by rw [f1' 87 (by decide)])
  unfold J_X12_years_93_49
  by_cases hc' : dv' (dx' x1') (Int32.ofNat 10) < 8
  · refine ⟨R1', ?_, f1', g1', ?_⟩
    · simp (disch := omega) only [↓ce_87 hB', rf_87 hB', ↓nn_31, ↓nn_33, ↓nn_89, ↓nn_90, ↓nn_91, ↓nn_92, ↓nn_93, ↓nn_94, ↓nn_95, ↓nn_96, ↓nn_97, ↓nn_98, ↓nn_99, ↓nn_100, ↓nn_101, ↓nn_102, ↓nn_103, ↓nn_104, ↓nn_105, ↓nn_106, ↓nn_107, ↓nn_108, p_bs, p_rq0, p_rq1, p_rz0, p_rz1, p_us, p_un, p_uj, ↓reduceIte, n4', d1', ht']
      have hB' := hB1'
      simp (disch := omega) only [↓ce_87 hB', rf_87 hB', ↓nn_31, ↓nn_33, ↓nn_89, ↓nn_90, ↓nn_91, ↓nn_92, ↓nn_93, ↓nn_94, ↓nn_95, ↓nn_96, ↓nn_97, ↓nn_98, ↓nn_99, ↓nn_100, ↓nn_101, ↓nn_102, ↓nn_103, ↓nn_104, ↓nn_105, ↓nn_106, ↓nn_107, ↓nn_108, p_bs, p_rq0, p_rq1, p_rz0, p_rz1, p_us, p_un, p_uj, ↓reduceIte, d2'', hc']
    · rw [if_pos hc']; exact hR1'
  · generalize dv' (dx' (dx' x1')) (Int32.ofNat (t_ng H')) = a3' at *
    have hcs' := s_canStay (X' := p_L X' 87 43 (dx' (dx' x1'))) (I' := R1') (c' := 100) hB3' hM1' hng' (.inl rfl) hR1' a3' 2
    rw [if_neg hc']
    simp only
    unfold yq_y3
    cases hcan : t_can H' (va_up s' 3 (Int32.ofNat d')) 4 a3' 2
    · refine ⟨R1', ?_, f1', g1', ?_⟩
      · rw [hcan] at hcs'
        simp (disch := omega) only [↓ce_87 hB', rf_87 hB', ↓nn_31, ↓nn_33, ↓nn_89, ↓nn_90, ↓nn_91, ↓nn_92, ↓nn_93, ↓nn_94, ↓nn_95, ↓nn_96, ↓nn_97, ↓nn_98, ↓nn_99, ↓nn_100, ↓nn_101, ↓nn_102, ↓nn_103, ↓nn_104, ↓nn_105, ↓nn_106, ↓nn_107, ↓nn_108, p_bs, p_rq0, p_rq1, p_rz0, p_rz1, p_us, p_un, p_uj, ↓reduceIte, n4', d1', ht']
        have hB' := hB1'
        simp (disch := omega) only [↓ce_87 hB', rf_87 hB', ↓nn_31, ↓nn_33, ↓nn_89, ↓nn_90, ↓nn_91, ↓nn_92, ↓nn_93, ↓nn_94, ↓nn_95, ↓nn_96, ↓nn_97, ↓nn_98, ↓nn_99, ↓nn_100, ↓nn_101, ↓nn_102, ↓nn_103, ↓nn_104, ↓nn_105, ↓nn_106, ↓nn_107, ↓nn_108, p_bs, p_rq0, p_rq1, p_rz0, p_rz1, p_us, p_un, p_uj, ↓reduceIte, d2'', hc']
        have hB' := hB2'
        simp (disch := omega) only [↓ce_87 hB', rf_87 hB', ↓nn_31, ↓nn_33, ↓nn_89, ↓nn_90, ↓nn_91, ↓nn_92, ↓nn_93, ↓nn_94, ↓nn_95, ↓nn_96, ↓nn_97, ↓nn_98, ↓nn_99, ↓nn_100, ↓nn_101, ↓nn_102, ↓nn_103, ↓nn_104, ↓nn_105, ↓nn_106, ↓nn_107, ↓nn_108, p_bs, p_rq0, p_rq1, p_rz0, p_rz1, p_us, p_un, p_uj, ↓reduceIte, n5', d3']
        have hB' := hB3'
        simp (disch := omega) only [↓ce_87 hB', rf_87 hB', ↓nn_31, ↓nn_33, ↓nn_89, ↓nn_90, ↓nn_91, ↓nn_92, ↓nn_93, ↓nn_94, ↓nn_95, ↓nn_96, ↓nn_97, ↓nn_98, ↓nn_99, ↓nn_100, ↓nn_101, ↓nn_102, ↓nn_103, ↓nn_104, ↓nn_105, ↓nn_106, ↓nn_107, ↓nn_108, p_bs, p_rq0, p_rq1, p_rz0, p_rz1, p_us, p_un, p_uj, ↓reduceIte, hcs', t_b0]
      · rw [if_neg (by decide)]; exact hR1'
    · obtain ⟨g', m', c1', c2', c3', -⟩ := t_can4 hcan hng'
      obtain ⟨y1', y2', D', y3', y4'⟩ := id hGS1'
      have hRd' := (t_RSd (L' := L') hng' y1' y2' y3' y4' hR1' (op' := 4) (by omega) (by omega) hcan).2.2.2
      have ew' : t_dw (R1' 100) 4 a3' 2 = va_up (R1' 100) (4 * g') (R1' 100 (4 * g') + 2) := by unfold t_dw; rw [c3']; rfl
      rw [ew'] at hRd'
      refine ⟨q_u2 R1' 100 (4 * g' + 0) (R1' 100 (4 * g' + 0) + 2), ?_, fun c' z' => by rw [p_uc _ _ _ _ _ z']; exact f1' c' z', fun j' hj' => by rw [p_uj _ _ _ _ _ (by omega)]; exact g1' j' hj', ?_⟩
      · rw [hcan] at hcs'
        rw [c2'] at hcs' d3'
        simp (disch := omega) only [↓ce_87 hB', rf_87 hB', ↓nn_31, ↓nn_33, ↓nn_89, ↓nn_90, ↓nn_91, ↓nn_92, ↓nn_93, ↓nn_94, ↓nn_95, ↓nn_96, ↓nn_97, ↓nn_98, ↓nn_99, ↓nn_100, ↓nn_101, ↓nn_102, ↓nn_103, ↓nn_104, ↓nn_105, ↓nn_106, ↓nn_107, ↓nn_108, p_bs, p_rq0, p_rq1, p_rz0, p_rz1, p_us, p_un, p_uj, ↓reduceIte, n4', d1', ht']
        have hB' := hB1'
        simp (disch := omega) only [↓ce_87 hB', rf_87 hB', ↓nn_31, ↓nn_33, ↓nn_89, ↓nn_90, ↓nn_91, ↓nn_92, ↓nn_93, ↓nn_94, ↓nn_95, ↓nn_96, ↓nn_97, ↓nn_98, ↓nn_99, ↓nn_100, ↓nn_101, ↓nn_102, ↓nn_103, ↓nn_104, ↓nn_105, ↓nn_106, ↓nn_107, ↓nn_108, p_bs, p_rq0, p_rq1, p_rz0, p_rz1, p_us, p_un, p_uj, ↓reduceIte, d2'', hc']
        have hB' := hB2'
        simp (disch := omega) only [↓ce_87 hB', rf_87 hB', ↓nn_31, ↓nn_33, ↓nn_89, ↓nn_90, ↓nn_91, ↓nn_92, ↓nn_93, ↓nn_94, ↓nn_95, ↓nn_96, ↓nn_97, ↓nn_98, ↓nn_99, ↓nn_100, ↓nn_101, ↓nn_102, ↓nn_103, ↓nn_104, ↓nn_105, ↓nn_106, ↓nn_107, ↓nn_108, p_bs, p_rq0, p_rq1, p_rz0, p_rz1, p_us, p_un, p_uj, ↓reduceIte, n5', d3']
        have hB' := hB3'
        simp (disch := omega) only [↓ce_87 hB', rf_87 hB', ↓ce_100 hB', ↓nn_31, ↓nn_33, ↓nn_89, ↓nn_90, ↓nn_91, ↓nn_92, ↓nn_93, ↓nn_94, ↓nn_95, ↓nn_96, ↓nn_97, ↓nn_98, ↓nn_99, ↓nn_100, ↓nn_101, ↓nn_102, ↓nn_103, ↓nn_104, ↓nn_105, ↓nn_106, ↓nn_107, ↓nn_108, p_bs, p_rq0, p_rq1, p_rz0, p_rz1, p_us, p_un, p_uj, ↓reduceIte, hcs', t_b0, Bool.true_eq_false, p_ar]
      · rw [if_pos rfl, p_ur]; exact hRd'
theorem s_mY (hdM' : yq_HM dx' dv') (hdN' : yq_HN dv') (hB' : p_B X') (hS0' : p_S R') (hM' : t_HM H' R') (hW' : t_HW H') (hG' : t_GS H' s') (hR' : t_RS s' (R' 100)) (h36' : ∃ n', n' ≤ 60 ∧ R' 100 36 = Int32.ofNat n') (hL' : ∀ x', t_LM L' (x', X'.2) R') {f' : Int32} (hf' : R' 87 35 = f') {J' : p_I} (hj' : F_X12_remember 87 (R', X') = some ((), (J', X'))) (hrm' : t_RM R' J') {D' : Nat} (hD' : s' 0 = Int32.ofNat D') (hD'' : D' < 999) {n' i' : Nat} (hlt' : i' < n') (hn' : n' ≤ 30) : ∃ K' u', B_X12_years_49 87 (Int32.ofNat n') (Int32.ofNat i') (R', X') = some (.inl (Int32.ofNat (i' + 1), (K', p_T (p_L X' 87 43 (yq_yr H' L' dx' dv' f' s' (X'.1 87 43)).2) u'))) ∧ (∀ c', c' ≠ 87 → c' ≠ 91 → c' ≠ 102 → c' ≠ 100 → K' c' = J' c') ∧ (∀ j', ¬ t_m87 j' → K' 87 j' = J' 87 j') ∧ t_RS (t_ps H' L' (yq_yr H' L' dx' dv' f' s' (X'.1 87 43)).1) (K' 100) ∧ t_LU (J' 100) (K' 100) (t_e3 (t_ds H' (yq_yr H' L' dx' dv' f' s' (X'.1 87 43)).1) (t_B (t_fd H' (yq_yr H' L' dx' dv' f' s' (X'.1 87 43)).1)) (t_sm (t_ps H' L' (yq_yr H' L' dx' dv' f' s' (X'.1 87 43)).1) 6)) := by
  have hng' := hW'.2.2.2.1
  obtain ⟨b1', b2', b3'⟩ := hrm'
  have hGy' := yq_yrG (L' := L') (dx' := dx') hdN' hW' hG' f' (X'.1 87 43)
  have h0y := yq_yr0 (H' := H') (L' := L') (dx' := dx') (dv' := dv') (s' := s') f' (X'.1 87 43)
  have hJ100 : J' 100 = R' 100 := b1' 100 (by decide) (by decide)
  have hMJ' : t_HM H' J' := t_HMk hM' (b1' 92 (by decide) (by decide)) (b1' 94 (by decide) (by decide)) (b1' 96 (by decide) (by decide)) (b2' 26 (by decide)) (b2' 27 (by decide))
  have hRJ' : t_RS s' (J' 100) := by rw [hJ100]; exact hR'
  have hlt8' : (Int32.ofNat i' < Int32.ofNat n') = True := by rw [p_lt i' n' (by omega) (by omega)]; exact eq_true hlt'
  have j35' : J' 87 35 = f' := by rw [b2' 35 (by decide)]; exact hf'
  have d1' := hdM' X' J' 10 hB' (by decide) (by decide)
  have d1'' : F_X12_draw 87 10 (J', X') = some (dv' (dx' (X'.1 87 43)) (Int32.ofNat 10), (J', p_L X' 87 43 (dx' (X'.1 87 43)))) := d1'
  have hB1' := p_BL hB' 87 43 (dx' (X'.1 87 43))
  have hy1G : t_GS H' (yq_y1 H' L' dx' dv' f' s' (X'.1 87 43)) := yq_y1G hW' hG' f' _
  have hrest : ∀ J1' : p_I, (∀ c', c' ≠ 100 → J1' c' = J' c') → (∀ j', 36 ≤ j' → J1' 100 j' = J' 100 j') → t_RS (yq_y1 H' L' dx' dv' f' s' (X'.1 87 43)) (J1' 100) → ∃ K' u', J_X12_years_93_49 87 (Int32.ofNat n') (Int32.ofNat i') (J1', p_L X' 87 43 (dx' (X'.1 87 43))) = some (.inl (Int32.ofNat (i' + 1), (K', p_T (p_L X' 87 43 (yq_yr H' L' dx' dv' f' s' (X'.1 87 43)).2) u'))) ∧ (∀ c', c' ≠ 87 → c' ≠ 91 → c' ≠ 102 → c' ≠ 100 → K' c' = J' c') ∧ (∀ j', ¬ t_m87 j' → K' 87 j' = J' 87 j') ∧ t_RS (t_ps H' L' (yq_yr H' L' dx' dv' f' s' (X'.1 87 43)).1) (K' 100) ∧ t_LU (J' 100) (K' 100) (t_e3 (t_ds H' (yq_yr H' L' dx' dv' f' s' (X'.1 87 43)).1) (t_B (t_fd H' (yq_yr H' L' dx' dv' f' s' (X'.1 87 43)).1)) (t_sm (t_ps H' L' (yq_yr H' L' dx' dv' f' s' (X'.1 87 43)).1) 6)) := by
    intro J1' f1' g1' hR1'
    have hM1' : t_HM H' J1' := t_HMk hMJ' (f1' 92 (by decide)) (f1' 94 (by decide)) (f1' 96 (by decide)) (by rw [f1' 87 (by decide)]) (by rw [f1' 87 (by decide)])
    obtain ⟨R2', m1', m2', m3', m4'⟩ := s_mY2 (X' := p_L X' 87 43 (dx' (X'.1 87 43))) (L' := L') hdM' hdN' hB1' hM1' hW' hy1G hR1' (Int32.ofNat n') (Int32.ofNat i')
    rw [p_Lv] at m1' m4'
    rw [p_LL] at m1'
    have ey' : yq_y2 H' L' dx' dv' (yq_y1 H' L' dx' dv' f' s' (X'.1 87 43)) (dx' (X'.1 87 43)) = yq_yr H' L' dx' dv' f' s' (X'.1 87 43) := rfl
    rw [ey'] at m1' m4'
    generalize yq_yr H' L' dx' dv' f' s' (X'.1 87 43) = yr' at *
    obtain ⟨s1', x''⟩ := yr'
    simp only at *
    have hB2' := p_BL hB' 87 43 x''
    obtain ⟨n36', hn1', hn2'⟩ := h36'
    have f2' : ∀ c', c' ≠ 87 → c' ≠ 103 → c' ≠ 100 → R2' c' = R' c' := fun c' z1' z2' z3' => by rw [m2' c' z3', f1' c' z3']; exact b1' c' z1' z2'
    obtain ⟨K', u', k1', k2', k3', k4', k5'⟩ := s_goDay (X' := p_L X' 87 43 x'') (I' := R2') (s' := s1') (c' := 100) (L' := L') hB2' (fun c' hc' => by rw [f2' c' (by omega) (by omega) (by omega)]; exact hS0' c' hc') (t_HMk hM1' (m2' 92 (by decide)) (m2' 94 (by decide)) (m2' 96 (by decide)) (by rw [m2' 87 (by decide)]) (by rw [m2' 87 (by decide)])) hW' hGy'.1 (.inl rfl) m4' (t_LMk (t_LMX hL' 87 43 x'') (by rw [m2' 87 (by decide), f1' 87 (by decide)]; exact b2' 34 (by decide)) (f2' 89 (by decide) (by decide) (by decide)) (f2' 90 (by decide) (by decide) (by decide))) (D' := D') (by rw [h0y]; exact hD') (by omega) hn1' (by rw [m3' 36 (by omega), g1' 36 (by omega), hJ100]; exact hn2')
    refine ⟨K', u', ?_, fun c' z1' z2' z3' z4' => by rw [k2' c' z1' z2' z3' z4', m2' c' z4', f1' c' z4'], fun j' hj' => by rw [k3' j' (by omega) (by omega) (by omega), m2' 87 (by decide), f1' 87 (by decide)], k4', ?_⟩
    · rw [m1']
      unfold J_X12_years_160_49
      have hB' := hB2'
      simp (disch := omega) only [↓ce_87 hB', rf_87 hB', ↓nn_31, ↓nn_33, ↓nn_89, ↓nn_90, ↓nn_91, ↓nn_92, ↓nn_93, ↓nn_94, ↓nn_95, ↓nn_96, ↓nn_97, ↓nn_98, ↓nn_99, ↓nn_100, ↓nn_101, ↓nn_102, ↓nn_103, ↓nn_104, ↓nn_105, ↓nn_106, ↓nn_107, ↓nn_108, p_bs, p_rq0, p_rq1, p_rz0, p_rz1, p_us, p_un, p_uj, ↓reduceIte, k1', p_ar]
    · have e' : ∀ j', 36 ≤ j' → R2' 100 j' = J' 100 j' := fun j' hj' => by rw [m3' j' hj', g1' j' hj']
      obtain ⟨q', q1', q2', q3'⟩ := k5'
      refine ⟨q', q1', by rw [← e' 36 (by omega)]; exact q2', ?_⟩
      rcases q3' with ⟨z1', z2', z3', z4'⟩ | ⟨z1', z2', z3', z4'⟩
      · exact .inl ⟨z1', z2', fun j' hj' => by rw [z3' j' hj']; exact e' _ (by omega), z4'⟩
      · exact .inr ⟨z1', z2', fun j' hj' => by rw [z3' j' hj']; exact e' _ (by omega), z4'⟩
  unfold B_X12_years_49
  by_cases hc' : dv' (dx' (X'.1 87 43)) (Int32.ofNat 10) < f'
  · have hci' := s_canBeIll (X' := p_L X' 87 43 (dx' (X'.1 87 43))) (I' := J') (H' := H') (c' := 100) hB1' (.inl rfl) hRJ' (-1) (-1)
    cases hcan : t_can H' s' 2 (-1) (-1)
    · obtain ⟨K', u', k1', k2'⟩ := hrest J' (fun _ _ => rfl) (fun _ _ => rfl) (by unfold yq_y1; rw [if_neg (by rw [hcan]; simp)]; exact hRJ')
      refine ⟨K', u', ?_, k2'⟩
      rw [hcan] at hci'
      simp (disch := omega) only [↓ce_87 hB', rf_87 hB', ↓nn_31, ↓nn_33, ↓nn_89, ↓nn_90, ↓nn_91, ↓nn_92, ↓nn_93, ↓nn_94, ↓nn_95, ↓nn_96, ↓nn_97, ↓nn_98, ↓nn_99, ↓nn_100, ↓nn_101, ↓nn_102, ↓nn_103, ↓nn_104, ↓nn_105, ↓nn_106, ↓nn_107, ↓nn_108, p_bs, p_rq0, p_rq1, p_rz0, p_rz1, p_us, p_un, p_uj, ↓reduceIte, hlt8', hj', d1'']
      have hB' := hB1'
      simp (disch := omega) only [↓ce_87 hB', rf_87 hB', ↓nn_31, ↓nn_33, ↓nn_89, ↓nn_90, ↓nn_91, ↓nn_92, ↓nn_93, ↓nn_94, ↓nn_95, ↓nn_96, ↓nn_97, ↓nn_98, ↓nn_99, ↓nn_100, ↓nn_101, ↓nn_102, ↓nn_103, ↓nn_104, ↓nn_105, ↓nn_106, ↓nn_107, ↓nn_108, p_bs, p_rq0, p_rq1, p_rz0, p_rz1, p_us, p_un, p_uj, ↓reduceIte, j35', hc', hci', t_b0, k1']
    · obtain ⟨y1', y2', D'', y3', y4'⟩ := id hG'
      have hRd' := (t_RSd (L' := L') hng' y1' y2' y3' y4' hRJ' (op' := 2) (by omega) (by omega) hcan).2.2.2
      obtain ⟨K', u', k1', k2'⟩ := hrest (q_u2 J' 100 32 (J' 100 32 + 1)) (fun c' hc' => p_uc _ _ _ _ _ hc') (fun j' hj' => p_uj _ _ _ _ _ (by omega)) (by
        unfold yq_y1
        rw [if_pos ⟨hc', hcan⟩, p_ur]
        exact hRd')
      refine ⟨K', u', ?_, k2'⟩
      rw [hcan] at hci'
      simp (disch := omega) only [↓ce_87 hB', rf_87 hB', ↓nn_31, ↓nn_33, ↓nn_89, ↓nn_90, ↓nn_91, ↓nn_92, ↓nn_93, ↓nn_94, ↓nn_95, ↓nn_96, ↓nn_97, ↓nn_98, ↓nn_99, ↓nn_100, ↓nn_101, ↓nn_102, ↓nn_103, ↓nn_104, ↓nn_105, ↓nn_106, ↓nn_107, ↓nn_108, p_bs, p_rq0, p_rq1, p_rz0, p_rz1, p_us, p_un, p_uj, ↓reduceIte, hlt8', hj', d1'']
      have hB' := hB1'
      simp (disch := omega) only [↓ce_87 hB', rf_87 hB', ↓nn_31, ↓nn_33, ↓nn_89, ↓nn_90, ↓nn_91, ↓nn_92, ↓nn_93, ↓nn_94, ↓nn_95, ↓nn_96, ↓nn_97, ↓nn_98, ↓nn_99, ↓nn_100, ↓nn_101, ↓nn_102, ↓nn_103, ↓nn_104, ↓nn_105, ↓nn_106, ↓nn_107, ↓nn_108, p_bs, p_rq0, p_rq1, p_rz0, p_rz1, p_us, p_un, p_uj, ↓reduceIte, p_mr (show t_RK 100 from .inl rfl) hB1', j35', hc', hci', t_b0, Bool.true_eq_false, k1']
  · obtain ⟨K', u', k1', k2'⟩ := hrest J' (fun _ _ => rfl) (fun _ _ => rfl) (by unfold yq_y1; rw [if_neg (fun h' => hc' h'.1)]; exact hRJ')
    refine ⟨K', u', ?_, k2'⟩
    simp (disch := omega) only [↓ce_87 hB', rf_87 hB', ↓nn_31, ↓nn_33, ↓nn_89, ↓nn_90, ↓nn_91, ↓nn_92, ↓nn_93, ↓nn_94, ↓nn_95, ↓nn_96, ↓nn_97, ↓nn_98, ↓nn_99, ↓nn_100, ↓nn_101, ↓nn_102, ↓nn_103, ↓nn_104, ↓nn_105, ↓nn_106, ↓nn_107, ↓nn_108, p_bs, p_rq0, p_rq1, p_rz0, p_rz1, p_us, p_un, p_uj, ↓reduceIte, hlt8', hj', d1'']
    have hB' := hB1'
    simp (disch := omega) only [↓ce_87 hB', rf_87 hB', ↓nn_31, ↓nn_33, ↓nn_89, ↓nn_90, ↓nn_91, ↓nn_92, ↓nn_93, ↓nn_94, ↓nn_95, ↓nn_96, ↓nn_97, ↓nn_98, ↓nn_99, ↓nn_100, ↓nn_101, ↓nn_102, ↓nn_103, ↓nn_104, ↓nn_105, ↓nn_106, ↓nn_107, ↓nn_108, p_bs, p_rq0, p_rq1, p_rz0, p_rz1, p_us, p_un, p_uj, ↓reduceIte, j35', hc', k1']
end PD'
