/-! all: the reference -/
theorem yq_sub0 (a' b' : Nat) (ha' : a' < 1000) (hb' : b' < 1000) : ((0 : Int32) < Int32.ofNat a' - Int32.ofNat b') = (b' < a') := by
  apply propext
  rw [Int32.lt_iff_toInt_lt, Int32.toInt_sub, p_toI a' (by omega), p_toI b' (by omega), show (0 : Int32).toInt = 0 from rfl, Int.bmod_eq_of_le (by omega) (by omega)]
  omega
section PY'
variable {X' : p_X} {I' : p_I} {H' : t_H} {s' : Nat → Int32}
theorem s_greatest (hB' : p_B X') (hM' : t_HM H' I') (hW' : t_HW H') (l' : Int32) {f' : Nat → Int32} (hf' : ∀ g', g' < t_ng H' → F_X12_valueOf 87 l' (Int32.ofNat g') (I', X') = some (f' g')) : F_X12_greatest 87 l' (I', X') = some (Int32.ofNat (yq_am (fun x' y' => decide (f' x' < f' y')) (t_ng H' - 1))) := by
  obtain ⟨P', hP'⟩ : ∃ P' : Nat → Nat → Bool, P' = (fun x' y' => decide (f' x' < f' y')) := ⟨_, rfl⟩
  rw [← hP']
  have hng' := hW'.2.2.2.1
  have h0' := hW'.2.2.1
  have n27' : I' 87 27 = Int32.ofNat (t_ng H') := hM'.2.2.2.2
  obtain ⟨z', h2', h3'⟩ := p_lp (fun z' => B_X12_greatest_4 87 l' z'.1 z'.2 (I', X')) (fun k' z' => z' = (Int32.ofNat (yq_am P' k'), Int32.ofNat (k' + 1))) (fun z' => z' = Int32.ofNat (yq_am P' (t_ng H' - 1))) (t_ng H' - 1) (by
    rintro k' z' hk' rfl
    have hl' : (Int32.ofNat (k' + 1) < Int32.ofNat (t_ng H')) = (k' + 1 < t_ng H') := p_lt _ _ (by omega) (by omega)
    unfold B_X12_greatest_4 J_X12_greatest_32_4
    by_cases hlt' : k' + 1 < t_ng H'
    · left
      have ham' := yq_amL P' k'
      have o1' := hf' (k' + 1) hlt'
      have o2' := hf' (yq_am P' k') (by omega)
      have hPk' : P' (yq_am P' k') (k' + 1) = decide (f' (yq_am P' k') < f' (k' + 1)) := by rw [hP']
      refine ⟨(Int32.ofNat (yq_am P' (k' + 1)), Int32.ofNat (k' + 1 + 1)), ?_, by omega, rfl⟩
      rw [yq_am, hPk']
      by_cases hc' : f' (yq_am P' k') < f' (k' + 1)
      · simp (disch := omega) only [↓ce_87 hB', rf_87 hB', ↓nn_31, ↓nn_33, ↓nn_89, ↓nn_90, ↓nn_91, ↓nn_92, ↓nn_93, ↓nn_94, ↓nn_95, ↓nn_96, ↓nn_97, ↓nn_98, ↓nn_99, ↓nn_100, ↓nn_101, ↓nn_102, ↓nn_103, ↓nn_104, ↓nn_105, ↓nn_106, ↓nn_107, ↓nn_108, p_bs, p_rq0, p_rq1, p_rz0, p_rz1, p_us, p_un, p_uj, ↓reduceIte, n27', hl', hlt', o1', o2', hc', decide_true, p_ar]
      · simp (disch := omega) only [↓ce_87 hB', rf_87 hB', ↓nn_31, ↓nn_33, ↓nn_89, ↓nn_90, ↓nn_91, ↓nn_92, ↓nn_93, ↓nn_94, ↓nn_95, ↓nn_96, ↓nn_97, ↓nn_98, ↓nn_99, ↓nn_100, ↓nn_101, ↓nn_102, ↓nn_103, ↓nn_104, ↓nn_105, ↓nn_106, ↓nn_107, ↓nn_108, p_bs, p_rq0, p_rq1, p_rz0, p_rz1, p_us, p_un, p_uj, ↓reduceIte, n27', hl', hlt', o1', o2', hc', decide_false, Bool.false_eq_true, p_ar]
    · right
      have hk'' : k' = t_ng H' - 1 := by omega
      refine ⟨Int32.ofNat (yq_am P' k'), ?_, by rw [hk'']⟩
      simp (disch := omega) only [↓ce_87 hB', rf_87 hB', ↓nn_31, ↓nn_33, ↓nn_89, ↓nn_90, ↓nn_91, ↓nn_92, ↓nn_93, ↓nn_94, ↓nn_95, ↓nn_96, ↓nn_97, ↓nn_98, ↓nn_99, ↓nn_100, ↓nn_101, ↓nn_102, ↓nn_103, ↓nn_104, ↓nn_105, ↓nn_106, ↓nn_107, ↓nn_108, p_bs, p_rq0, p_rq1, p_rz0, p_rz1, p_us, p_un, p_uj, ↓reduceIte, n27', hl', hlt']) (t_ng H' - 1) 0 q_fu (0, 1) (by omega) (by unfold q_fu; omega) rfl
  unfold F_X12_greatest
  rw [h2', h3']
  rfl
theorem s_likers (hB' : p_B X') (hM' : t_HM H' I') (hW' : t_HW H') (hS' : t_WF H' s') (hR' : t_RS s' (I' 100)) {d' : Nat} (hd' : d' < t_nd H') : F_X12_likers 87 (Int32.ofNat d') (I', X') = some (Int32.ofNat (yq_fr H' s' d' (t_ng H'))) := by
  have hng' := hW'.2.2.2.1
  have n27' : I' 87 27 = Int32.ofNat (t_ng H') := hM'.2.2.2.2
  have hkd' := s_kindOf hB' hM' hW' d' hd'
  obtain ⟨z', h2', h3'⟩ := p_lp (fun z' => B_X12_likers_4 87 (Int32.ofNat d') z'.1 z'.2 (I', X')) (fun k' z' => z' = (Int32.ofNat (yq_fr H' s' d' k'), Int32.ofNat k')) (fun z' => z' = Int32.ofNat (yq_fr H' s' d' (t_ng H'))) (t_ng H') (by
    rintro k' z' hk' rfl
    have hl' : (Int32.ofNat k' < Int32.ofNat (t_ng H')) = (k' < t_ng H') := p_lt _ _ (by omega) (by omega)
    unfold B_X12_likers_4 J_X12_likers_47_4 J_X12_likers_48_4
    by_cases hlt' : k' < t_ng H'
    · left
      have hth' := s_misThere (c' := 100) hB' hM' hW' hS' (.inl rfl) hR'.1 k' hlt'
      have hw' : I' 100 (4 * k' + 1) = s' (19 + k') := (hR'.1.1 k' (by omega)).2.1
      refine ⟨(Int32.ofNat (yq_fr H' s' d' (k' + 1)), Int32.ofNat (k' + 1)), ?_, hlt', rfl⟩
      have e1' : yq_fr H' s' d' (k' + 1) = yq_fr H' s' d' k' + (if (t_th H' s' k' && decide (s' (19 + k') = t_hd H' (d' * 3 + 2))) = true then 1 else 0) := rfl
      rw [e1']
      cases ht' : t_th H' s' k'
      · rw [ht'] at hth'
        simp (disch := omega) only [↓ce_87 hB', rf_87 hB', ↓nn_31, ↓nn_33, ↓nn_89, ↓nn_90, ↓nn_91, ↓nn_92, ↓nn_93, ↓nn_94, ↓nn_95, ↓nn_96, ↓nn_97, ↓nn_98, ↓nn_99, ↓nn_100, ↓nn_101, ↓nn_102, ↓nn_103, ↓nn_104, ↓nn_105, ↓nn_106, ↓nn_107, ↓nn_108, p_bs, p_rq0, p_rq1, p_rz0, p_rz1, p_us, p_un, p_uj, ↓reduceIte, n27', hl', hlt', hth', t_b0, Bool.false_and, Bool.false_eq_true, p_ar]
      · rw [ht'] at hth'
        by_cases hc' : s' (19 + k') = t_hd H' (d' * 3 + 2)
        · simp (disch := omega) only [↓ce_87 hB', rf_87 hB', ↓ce_100 hB', ↓nn_31, ↓nn_33, ↓nn_89, ↓nn_90, ↓nn_91, ↓nn_92, ↓nn_93, ↓nn_94, ↓nn_95, ↓nn_96, ↓nn_97, ↓nn_98, ↓nn_99, ↓nn_100, ↓nn_101, ↓nn_102, ↓nn_103, ↓nn_104, ↓nn_105, ↓nn_106, ↓nn_107, ↓nn_108, p_bs, p_rq0, p_rq1, p_rz0, p_rz1, p_us, p_un, p_uj, ↓reduceIte, n27', hl', hlt', hth', t_b0, Bool.true_eq_false, p_ar, hw', hkd', hc', decide_true, Bool.and_self]
        · simp (disch := omega) only [↓ce_87 hB', rf_87 hB', ↓ce_100 hB', ↓nn_31, ↓nn_33, ↓nn_89, ↓nn_90, ↓nn_91, ↓nn_92, ↓nn_93, ↓nn_94, ↓nn_95, ↓nn_96, ↓nn_97, ↓nn_98, ↓nn_99, ↓nn_100, ↓nn_101, ↓nn_102, ↓nn_103, ↓nn_104, ↓nn_105, ↓nn_106, ↓nn_107, ↓nn_108, p_bs, p_rq0, p_rq1, p_rz0, p_rz1, p_us, p_un, p_uj, ↓reduceIte, n27', hl', hlt', hth', t_b0, Bool.true_eq_false, p_ar, hw', hkd', hc', decide_false, Bool.and_false, Bool.false_eq_true]
    · right
      have hk'' : k' = t_ng H' := by omega
      refine ⟨Int32.ofNat (yq_fr H' s' d' k'), ?_, by rw [hk'']⟩
      simp (disch := omega) only [↓ce_87 hB', rf_87 hB', ↓nn_31, ↓nn_33, ↓nn_89, ↓nn_90, ↓nn_91, ↓nn_92, ↓nn_93, ↓nn_94, ↓nn_95, ↓nn_96, ↓nn_97, ↓nn_98, ↓nn_99, ↓nn_100, ↓nn_101, ↓nn_102, ↓nn_103, ↓nn_104, ↓nn_105, ↓nn_106, ↓nn_107, ↓nn_108, p_bs, p_rq0, p_rq1, p_rz0, p_rz1, p_us, p_un, p_uj, ↓reduceIte, n27', hl', hlt']) (t_ng H') 0 q_fu (0, 0) (by omega) (by unfold q_fu; omega) rfl
  unfold F_X12_likers
  rw [h2', h3']
  rfl
theorem s_ofDishM (hB' : p_B X') (hM' : t_HM H' I') (hW' : t_HW H') (hS' : t_WF H' s') (hR' : t_RS s' (I' 100)) {q' : Nat} (hq' : q' = 3 ∨ q' = 4 ∨ q' = 5) : F_X12_ofDish 87 (Int32.ofNat q') (I', X') = some (Int32.ofNat (yq_am (fun x' y' => if q' = 3 then decide (t_hd H' (x' * 3) < t_hd H' (y' * 3)) else if q' = 4 then decide (t_hd H' (y' * 3 + 1) < t_hd H' (x' * 3 + 1)) else decide (yq_fr H' s' x' (t_ng H') < yq_fr H' s' y' (t_ng H'))) (t_nd H' - 1))) := by
  obtain ⟨P', hP'⟩ : ∃ P' : Nat → Nat → Bool, P' = (fun x' y' => if q' = 3 then decide (t_hd H' (x' * 3) < t_hd H' (y' * 3)) else if q' = 4 then decide (t_hd H' (y' * 3 + 1) < t_hd H' (x' * 3 + 1)) else decide (yq_fr H' s' x' (t_ng H') < yq_fr H' s' y' (t_ng H'))) := ⟨_, rfl⟩
  rw [← hP']
  have hnd' := hW'.2.1
  have hng' := hW'.2.2.2.1
  have h0' := hW'.1
  have n26' : I' 87 26 = Int32.ofNat (t_nd H') := hM'.2.2.2.1
  obtain ⟨z', h2', h3'⟩ := p_lp (fun z' => B_X12_ofDish_4 87 (Int32.ofNat q') z'.1 z'.2 (I', X')) (fun k' z' => z' = (Int32.ofNat (yq_am P' k'), Int32.ofNat (k' + 1))) (fun z' => z' = Int32.ofNat (yq_am P' (t_nd H' - 1))) (t_nd H' - 1) (by
    rintro k' z' hk' rfl
    have hl' : (Int32.ofNat (k' + 1) < Int32.ofNat (t_nd H')) = (k' + 1 < t_nd H') := p_lt _ _ (by omega) (by omega)
    unfold B_X12_ofDish_4 J_X12_ofDish_77_4 J_X12_ofDish_89_4
    by_cases hlt' : k' + 1 < t_nd H'
    · left
      have ham' := yq_amL P' k'
      refine ⟨(Int32.ofNat (yq_am P' (k' + 1)), Int32.ofNat (k' + 1 + 1)), ?_, by omega, rfl⟩
      rw [yq_am]
      obtain ⟨b', hb'⟩ : ∃ b', b' = yq_am P' k' := ⟨_, rfl⟩
      rw [← hb'] at ham' ⊢
      have hmul : ∀ x' : Nat, (3 : Int32) * Int32.ofNat x' = Int32.ofNat (3 * x') := fun x' => by rw [show (3 : Int32) = Int32.ofNat 3 from rfl, ← Int32.ofNat_mul]
      rcases hq' with rfl | rfl | rfl
      · have e1' : I' 94 (3 * (k' + 1)) = t_hd H' ((k' + 1) * 3) := by rw [hM'.2.1 _ (by omega), Nat.mul_comm]
        have e2' : I' 94 (3 * b') = t_hd H' (b' * 3) := by rw [hM'.2.1 _ (by omega), Nat.mul_comm]
        obtain ⟨x', x1', x2'⟩ := hW'.2.2.2.2.2.2.2.2.2.1 (k' + 1) hlt'
        obtain ⟨y', y1', y2'⟩ := hW'.2.2.2.2.2.2.2.2.2.1 b' (by omega)
        have hsb' := yq_sub0 x' y' (by omega) (by omega)
        have hcm' : (t_hd H' (b' * 3) < t_hd H' ((k' + 1) * 3)) = (y' < x') := by rw [x1', y1']; exact p_lt y' x' (by omega) (by omega)
        have hPk' : P' b' (k' + 1) = decide (y' < x') := by rw [hP']; simp only [↓reduceIte, hcm']
        rw [hPk']
        rw [x1'] at e1'
        rw [y1'] at e2'
        by_cases hc' : y' < x'
        · simp (disch := omega) only [↓ce_87 hB', rf_87 hB', ↓ce_94 hB', ↓nn_31, ↓nn_33, ↓nn_89, ↓nn_90, ↓nn_91, ↓nn_92, ↓nn_93, ↓nn_94, ↓nn_95, ↓nn_96, ↓nn_97, ↓nn_98, ↓nn_99, ↓nn_100, ↓nn_101, ↓nn_102, ↓nn_103, ↓nn_104, ↓nn_105, ↓nn_106, ↓nn_107, ↓nn_108, p_bs, p_rq0, p_rq1, p_rz0, p_rz1, p_us, p_un, p_uj, ↓reduceIte, n26', hl', hlt', show (Int32.ofNat 3 = 3) = True from by decide, hmul, e1', e2', hsb', hc', decide_true, p_ar]
        · simp (disch := omega) only [↓ce_87 hB', rf_87 hB', ↓ce_94 hB', ↓nn_31, ↓nn_33, ↓nn_89, ↓nn_90, ↓nn_91, ↓nn_92, ↓nn_93, ↓nn_94, ↓nn_95, ↓nn_96, ↓nn_97, ↓nn_98, ↓nn_99, ↓nn_100, ↓nn_101, ↓nn_102, ↓nn_103, ↓nn_104, ↓nn_105, ↓nn_106, ↓nn_107, ↓nn_108, p_bs, p_rq0, p_rq1, p_rz0, p_rz1, p_us, p_un, p_uj, ↓reduceIte, n26', hl', hlt', show (Int32.ofNat 3 = 3) = True from by decide, hmul, e1', e2', hsb', hc', decide_false, Bool.false_eq_true, p_ar]
      · have e1' : I' 94 (3 * (k' + 1) + 1) = t_hd H' ((k' + 1) * 3 + 1) := by rw [hM'.2.1 _ (by omega), Nat.mul_comm]
        have e2' : I' 94 (3 * b' + 1) = t_hd H' (b' * 3 + 1) := by rw [hM'.2.1 _ (by omega), Nat.mul_comm]
        obtain ⟨x', x1', x2'⟩ := hW'.2.2.2.2.2.2.2.2.2.2.2 (k' + 1) hlt'
        obtain ⟨y', y1', y2'⟩ := hW'.2.2.2.2.2.2.2.2.2.2.2 b' (by omega)
        have hsb' := yq_sub0 y' x' (by omega) (by omega)
        have hcm' : (t_hd H' ((k' + 1) * 3 + 1) < t_hd H' (b' * 3 + 1)) = (x' < y') := by rw [x1', y1']; exact p_lt x' y' (by omega) (by omega)
        have hPk' : P' b' (k' + 1) = decide (x' < y') := by rw [hP']; simp only [↓reduceIte, hcm', show ((4 : Nat) = 3) = False from by decide]
        rw [hPk']
        rw [x1'] at e1'
        rw [y1'] at e2'
        by_cases hc' : x' < y'
        · simp (disch := omega) only [↓ce_87 hB', rf_87 hB', ↓ce_94 hB', ↓nn_31, ↓nn_33, ↓nn_89, ↓nn_90, ↓nn_91, ↓nn_92, ↓nn_93, ↓nn_94, ↓nn_95, ↓nn_96, ↓nn_97, ↓nn_98, ↓nn_99, ↓nn_100, ↓nn_101, ↓nn_102, ↓nn_103, ↓nn_104, ↓nn_105, ↓nn_106, ↓nn_107, ↓nn_108, p_bs, p_rq0, p_rq1, p_rz0, p_rz1, p_us, p_un, p_uj, ↓reduceIte, n26', hl', hlt', show (Int32.ofNat 4 = 3) = False from by decide, show (Int32.ofNat 4 = 4) = True from by decide, hmul, p_ar, e1', e2', hsb', hc', decide_true]
        · simp (disch := omega) only [↓ce_87 hB', rf_87 hB', ↓ce_94 hB', ↓nn_31, ↓nn_33, ↓nn_89, ↓nn_90, ↓nn_91, ↓nn_92, ↓nn_93, ↓nn_94, ↓nn_95, ↓nn_96, ↓nn_97, ↓nn_98, ↓nn_99, ↓nn_100, ↓nn_101, ↓nn_102, ↓nn_103, ↓nn_104, ↓nn_105, ↓nn_106, ↓nn_107, ↓nn_108, p_bs, p_rq0, p_rq1, p_rz0, p_rz1, p_us, p_un, p_uj, ↓reduceIte, n26', hl', hlt', show (Int32.ofNat 4 = 3) = False from by decide, show (Int32.ofNat 4 = 4) = True from by decide, hmul, p_ar, e1', e2', hsb', hc', decide_false, Bool.false_eq_true]
      · have e1' := s_likers hB' hM' hW' hS' hR' hlt'
        have e2' := s_likers hB' hM' hW' hS' hR' (show b' < t_nd H' by omega)
        have hL1' := yq_frL H' s' (k' + 1) (t_ng H')
        have hL2' := yq_frL H' s' b' (t_ng H')
        have hsb' := yq_sub0 (yq_fr H' s' (k' + 1) (t_ng H')) (yq_fr H' s' b' (t_ng H')) (by omega) (by omega)
        have hPk' : P' b' (k' + 1) = decide (yq_fr H' s' b' (t_ng H') < yq_fr H' s' (k' + 1) (t_ng H')) := by rw [hP']; simp only [↓reduceIte, show ((5 : Nat) = 3) = False from by decide, show ((5 : Nat) = 4) = False from by decide]
        rw [hPk']
        by_cases hc' : yq_fr H' s' b' (t_ng H') < yq_fr H' s' (k' + 1) (t_ng H')
        · simp (disch := omega) only [↓ce_87 hB', rf_87 hB', ↓nn_31, ↓nn_33, ↓nn_89, ↓nn_90, ↓nn_91, ↓nn_92, ↓nn_93, ↓nn_94, ↓nn_95, ↓nn_96, ↓nn_97, ↓nn_98, ↓nn_99, ↓nn_100, ↓nn_101, ↓nn_102, ↓nn_103, ↓nn_104, ↓nn_105, ↓nn_106, ↓nn_107, ↓nn_108, p_bs, p_rq0, p_rq1, p_rz0, p_rz1, p_us, p_un, p_uj, ↓reduceIte, n26', hl', hlt', show (Int32.ofNat 5 = 3) = False from by decide, show (Int32.ofNat 5 = 4) = False from by decide, e1', e2', hsb', hc', decide_true, p_ar]
        · simp (disch := omega) only [↓ce_87 hB', rf_87 hB', ↓nn_31, ↓nn_33, ↓nn_89, ↓nn_90, ↓nn_91, ↓nn_92, ↓nn_93, ↓nn_94, ↓nn_95, ↓nn_96, ↓nn_97, ↓nn_98, ↓nn_99, ↓nn_100, ↓nn_101, ↓nn_102, ↓nn_103, ↓nn_104, ↓nn_105, ↓nn_106, ↓nn_107, ↓nn_108, p_bs, p_rq0, p_rq1, p_rz0, p_rz1, p_us, p_un, p_uj, ↓reduceIte, n26', hl', hlt', show (Int32.ofNat 5 = 3) = False from by decide, show (Int32.ofNat 5 = 4) = False from by decide, e1', e2', hsb', hc', decide_false, Bool.false_eq_true, p_ar]
    · right
      have hk'' : k' = t_nd H' - 1 := by omega
      refine ⟨Int32.ofNat (yq_am P' k'), ?_, by rw [hk'']⟩
      simp (disch := omega) only [↓ce_87 hB', rf_87 hB', ↓nn_31, ↓nn_33, ↓nn_89, ↓nn_90, ↓nn_91, ↓nn_92, ↓nn_93, ↓nn_94, ↓nn_95, ↓nn_96, ↓nn_97, ↓nn_98, ↓nn_99, ↓nn_100, ↓nn_101, ↓nn_102, ↓nn_103, ↓nn_104, ↓nn_105, ↓nn_106, ↓nn_107, ↓nn_108, p_bs, p_rq0, p_rq1, p_rz0, p_rz1, p_us, p_un, p_uj, ↓reduceIte, n26', hl', hlt']) (t_nd H' - 1) 0 q_fu (0, 1) (by omega) (by unfold q_fu; omega) rfl
  unfold F_X12_ofDish
  rw [h2', h3']
  rfl
theorem s_mlast (hB' : p_B X') (hM' : t_HM H' I') (hW' : t_HW H') (hR' : t_RS s' (I' 100)) : F_X12_last 87 (I', X') = some (yq_la H' s' (t_ng H')) := by
  have hng' := hW'.2.2.2.1
  have n27' : I' 87 27 = Int32.ofNat (t_ng H') := hM'.2.2.2.2
  obtain ⟨z', h2', h3'⟩ := p_lp (fun z' => B_X12_last_4 87 z'.1 z'.2 (I', X')) (fun k' z' => z' = (yq_la H' s' k', Int32.ofNat k')) (fun z' => z' = yq_la H' s' (t_ng H')) (t_ng H') (by
    rintro k' z' hk' rfl
    have hl' : (Int32.ofNat k' < Int32.ofNat (t_ng H')) = (k' < t_ng H') := p_lt _ _ (by omega) (by omega)
    unfold B_X12_last_4 J_X12_last_48_4
    by_cases hlt' : k' < t_ng H'
    · left
      obtain ⟨q1', q2', q3', q4'⟩ := hR'.1.1 k' (by omega)
      have hcm' := s_comes hB' hM' hW' k' hlt'
      refine ⟨(yq_la H' s' (k' + 1), Int32.ofNat (k' + 1)), ?_, hlt', rfl⟩
      rw [yq_la]
      cases ht' : t_bit (s' 4) k'
      · rw [ht'] at q4'
        simp (disch := omega) only [↓ce_87 hB', rf_87 hB', ↓ce_100 hB', ↓nn_31, ↓nn_33, ↓nn_89, ↓nn_90, ↓nn_91, ↓nn_92, ↓nn_93, ↓nn_94, ↓nn_95, ↓nn_96, ↓nn_97, ↓nn_98, ↓nn_99, ↓nn_100, ↓nn_101, ↓nn_102, ↓nn_103, ↓nn_104, ↓nn_105, ↓nn_106, ↓nn_107, ↓nn_108, p_bs, p_rq0, p_rq1, p_rz0, p_rz1, p_us, p_un, p_uj, ↓reduceIte, n27', hl', hlt', p_ar, q4', t_b0, Bool.false_eq_true, hcm', Nat.add_zero, q1']
      · rw [ht'] at q4'
        simp (disch := omega) only [↓ce_87 hB', rf_87 hB', ↓ce_100 hB', ↓nn_31, ↓nn_33, ↓nn_89, ↓nn_90, ↓nn_91, ↓nn_92, ↓nn_93, ↓nn_94, ↓nn_95, ↓nn_96, ↓nn_97, ↓nn_98, ↓nn_99, ↓nn_100, ↓nn_101, ↓nn_102, ↓nn_103, ↓nn_104, ↓nn_105, ↓nn_106, ↓nn_107, ↓nn_108, p_bs, p_rq0, p_rq1, p_rz0, p_rz1, p_us, p_un, p_uj, ↓reduceIte, n27', hl', hlt', p_ar, q4', t_b0, Bool.true_eq_false]
    · right
      have hk'' : k' = t_ng H' := by omega
      refine ⟨yq_la H' s' k', ?_, by rw [hk'']⟩
      simp (disch := omega) only [↓ce_87 hB', rf_87 hB', ↓nn_31, ↓nn_33, ↓nn_89, ↓nn_90, ↓nn_91, ↓nn_92, ↓nn_93, ↓nn_94, ↓nn_95, ↓nn_96, ↓nn_97, ↓nn_98, ↓nn_99, ↓nn_100, ↓nn_101, ↓nn_102, ↓nn_103, ↓nn_104, ↓nn_105, ↓nn_106, ↓nn_107, ↓nn_108, p_bs, p_rq0, p_rq1, p_rz0, p_rz1, p_us, p_un, p_uj, ↓reduceIte, n27', hl', hlt']) (t_ng H') 0 q_fu (-1, 0) (by omega) (by unfold q_fu; omega) rfl
  unfold F_X12_last
  rw [h2', h3']
  rfl
theorem s_mtakes (hB' : p_B X') (hM' : t_HM H' I') (hW' : t_HW H') (hS' : t_WF H' s') (hR' : t_RS s' (I' 100)) : F_X12_takes_ 87 (I', X') = some (yq_tk H' s' (t_ng H')) := by
  have hng' := hW'.2.2.2.1
  have n27' : I' 87 27 = Int32.ofNat (t_ng H') := hM'.2.2.2.2
  obtain ⟨z', h2', h3'⟩ := p_lp (fun z' => B_X12_takes__4 87 z'.1 z'.2 (I', X')) (fun k' z' => z' = (yq_tk H' s' k', Int32.ofNat k')) (fun z' => z' = yq_tk H' s' (t_ng H')) (t_ng H') (by
    rintro k' z' hk' rfl
    have hl' : (Int32.ofNat k' < Int32.ofNat (t_ng H')) = (k' < t_ng H') := p_lt _ _ (by omega) (by omega)
    unfold B_X12_takes__4 J_X12_takes__34_4
    by_cases hlt' : k' < t_ng H'
    · left
      have hth' := s_misThere (c' := 100) hB' hM' hW' hS' (.inl rfl) hR'.1 k' hlt'
      have hpy' := s_pays hB' hM' hW' k' hlt'
      refine ⟨(yq_tk H' s' (k' + 1), Int32.ofNat (k' + 1)), ?_, hlt', rfl⟩
      rw [yq_tk]
      cases ht' : t_th H' s' k'
      · rw [ht'] at hth'
        simp (disch := omega) only [↓ce_87 hB', rf_87 hB', ↓nn_31, ↓nn_33, ↓nn_89, ↓nn_90, ↓nn_91, ↓nn_92, ↓nn_93, ↓nn_94, ↓nn_95, ↓nn_96, ↓nn_97, ↓nn_98, ↓nn_99, ↓nn_100, ↓nn_101, ↓nn_102, ↓nn_103, ↓nn_104, ↓nn_105, ↓nn_106, ↓nn_107, ↓nn_108, p_bs, p_rq0, p_rq1, p_rz0, p_rz1, p_us, p_un, p_uj, ↓reduceIte, n27', hl', hlt', hth', t_b0, Bool.false_eq_true, Int32.add_zero, p_ar]
      · rw [ht'] at hth'
        simp (disch := omega) only [↓ce_87 hB', rf_87 hB', ↓nn_31, ↓nn_33, ↓nn_89, ↓nn_90, ↓nn_91, ↓nn_92, ↓nn_93, ↓nn_94, ↓nn_95, ↓nn_96, ↓nn_97, ↓nn_98, ↓nn_99, ↓nn_100, ↓nn_101, ↓nn_102, ↓nn_103, ↓nn_104, ↓nn_105, ↓nn_106, ↓nn_107, ↓nn_108, p_bs, p_rq0, p_rq1, p_rz0, p_rz1, p_us, p_un, p_uj, ↓reduceIte, n27', hl', hlt', hth', t_b0, Bool.true_eq_false, hpy', p_ar]
    · right
      have hk'' : k' = t_ng H' := by omega
      refine ⟨yq_tk H' s' k', ?_, by rw [hk'']⟩
      simp (disch := omega) only [↓ce_87 hB', rf_87 hB', ↓nn_31, ↓nn_33, ↓nn_89, ↓nn_90, ↓nn_91, ↓nn_92, ↓nn_93, ↓nn_94, ↓nn_95, ↓nn_96, ↓nn_97, ↓nn_98, ↓nn_99, ↓nn_100, ↓nn_101, ↓nn_102, ↓nn_103, ↓nn_104, ↓nn_105, ↓nn_106, ↓nn_107, ↓nn_108, p_bs, p_rq0, p_rq1, p_rz0, p_rz1, p_us, p_un, p_uj, ↓reduceIte, n27', hl', hlt']) (t_ng H') 0 q_fu (0, 0) (by omega) (by unfold q_fu; omega) rfl
  unfold F_X12_takes_
  rw [h2', h3']
  rfl
end PY'
