/-! all: who is first -/
def yq_am (P' : Nat → Nat → Bool) : Nat → Nat
  | 0 => 0
  | n' + 1 => if P' (yq_am P' n') (n' + 1) = true then n' + 1 else yq_am P' n'
theorem yq_amL (P' : Nat → Nat → Bool) (n' : Nat) : yq_am P' n' ≤ n' := by
  induction n' with
  | zero => exact Nat.le_refl _
  | succ n' ih' => rw [yq_am]; split <;> omega
theorem yq_amC (P' P'' : Nat → Nat → Bool) (n' : Nat) (h' : ∀ x' y', x' ≤ n' → y' ≤ n' → P' x' y' = P'' x' y') : yq_am P' n' = yq_am P'' n' := by
  induction n' with
  | zero => rfl
  | succ n' ih' =>
    have h1' := ih' (fun x' y' hx' hy' => h' x' y' (by omega) (by omega))
    have h2' := yq_amL P'' n'
    rw [yq_am, yq_am, h1', h' _ _ (by omega) (by omega)]
def yq_la (H' : t_H) (s' : Nat → Int32) : Nat → Int32
  | 0 => -1
  | g' + 1 => if t_bit (s' 4) g' = true then yq_la H' s' g' else q_mx (yq_la H' s' g') (t_hg H' (g' * 4) + s' (13 + g') - 1)
def yq_tk (H' : t_H) (s' : Nat → Int32) : Nat → Int32
  | 0 => 0
  | g' + 1 => if t_th H' s' g' = true then yq_tk H' s' g' + t_hg H' (g' * 4 + 3) else yq_tk H' s' g'
def yq_fr (H' : t_H) (s' : Nat → Int32) (d' n' : Nat) : Nat := t_cn (fun g' => t_th H' s' g' && decide (s' (19 + g') = t_hd H' (d' * 3 + 2))) n'
section PY'
variable {X' : p_X} {I' : p_I} {H' : t_H} {s' : Nat → Int32}
theorem s_firstMost {c' len' a' b' ct' : Nat} (hsh' : X'.2.2[c']? = some (.inr (0, len'))) (hlen : len' < 1000) (h1' : 1 ≤ ct') (h6' : ct' ≤ 6) (hb' : ∀ i', i' < ct' → a' + i' * b' < len') : F_X11_firstMost c' (Int32.ofNat a') (Int32.ofNat b') (Int32.ofNat ct') (I', X') = some (Int32.ofNat (yq_am (fun x' y' => decide (I' c' (a' + x' * b') < I' c' (a' + y' * b'))) (ct' - 1))) := by
  obtain ⟨P', hP'⟩ : ∃ P', P' = (fun x' y' => decide (I' c' (a' + x' * b') < I' c' (a' + y' * b'))) := ⟨_, rfl⟩
  rw [← hP']
  have hix' : ∀ i' : Nat, Int32.ofNat a' + Int32.ofNat i' * Int32.ofNat b' = Int32.ofNat (a' + i' * b') := fun i' => by rw [← Int32.ofNat_mul, ← Int32.ofNat_add]
  obtain ⟨z', h2', h3'⟩ := p_lp (fun z' => B_X11_firstMost_6 c' (Int32.ofNat a') (Int32.ofNat b') (Int32.ofNat ct') z'.1 z'.2 (I', X')) (fun k' z' => z' = (Int32.ofNat (yq_am P' k'), Int32.ofNat (k' + 1))) (fun z' => z' = Int32.ofNat (yq_am P' (ct' - 1))) (ct' - 1) (by
    rintro k' z' hk' rfl
    have hl' : (Int32.ofNat (k' + 1) < Int32.ofNat ct') = (k' + 1 < ct') := p_lt _ _ (by omega) (by omega)
    unfold B_X11_firstMost_6 J_X11_firstMost_46_6
    by_cases hlt' : k' + 1 < ct'
    · left
      have ham' := yq_amL P' k'
      have b1' := hb' (k' + 1) hlt'
      have b2' := hb' (yq_am P' k') (by omega)
      have q1' : ∀ f' : Int32 → Option ((Int32 × Int32) ⊕ Int32), q_lI (I', X') 0 c' (Int32.ofNat (a' + (k' + 1) * b')) f' = f' (I' c' (a' + (k' + 1) * b')) := fun f' => p_lI hsh' (by omega) I' _ f' b1'
      have q2' : ∀ f' : Int32 → Option ((Int32 × Int32) ⊕ Int32), q_lI (I', X') 0 c' (Int32.ofNat (a' + yq_am P' k' * b')) f' = f' (I' c' (a' + yq_am P' k' * b')) := fun f' => p_lI hsh' (by omega) I' _ f' b2'
      have hll' : (Int32.ofNat (a' + (k' + 1) * b') < Int32.ofNat len') = True := by rw [p_lt _ _ (by omega) (by omega)]; exact eq_true b1'
      have hPk' : P' (yq_am P' k') (k' + 1) = decide (I' c' (a' + yq_am P' k' * b') < I' c' (a' + (k' + 1) * b')) := by rw [hP']
      refine ⟨(Int32.ofNat (yq_am P' (k' + 1)), Int32.ofNat (k' + 1 + 1)), ?_, by omega, rfl⟩
      rw [yq_am, hPk']
      by_cases hc' : I' c' (a' + yq_am P' k' * b') < I' c' (a' + (k' + 1) * b')
      · simp (disch := omega) only [hl', hlt', ↓reduceIte, p_al hsh' (show (0 : Nat) < 6 by decide), hix', hll', q1', q2', hc', decide_true, p_ar]
      · simp (disch := omega) only [hl', hlt', ↓reduceIte, p_al hsh' (show (0 : Nat) < 6 by decide), hix', hll', q1', q2', hc', decide_false, Bool.false_eq_true, p_ar]
    · right
      have hk'' : k' = ct' - 1 := by omega
      refine ⟨Int32.ofNat (yq_am P' k'), ?_, by rw [hk'']⟩
      simp only [hl', hlt', ↓reduceIte]) (ct' - 1) 0 q_fu (0, 1) (by omega) (by unfold q_fu; omega) rfl
  unfold F_X11_firstMost
  rw [h2', h3']
  rfl
theorem s_cheapest (hB' : p_B X') (hH' : t_HI H' I') (hW' : t_HW H') : F_X11_cheapest 36 (I', X') = some (Int32.ofNat (yq_am (fun x' y' => decide (t_hd H' (y' * 3 + 1) < t_hd H' (x' * 3 + 1))) (t_nd H' - 1))) := by
  obtain ⟨P', hP'⟩ : ∃ P' : Nat → Nat → Bool, P' = (fun x' y' => decide (t_hd H' (y' * 3 + 1) < t_hd H' (x' * 3 + 1))) := ⟨_, rfl⟩
  rw [← hP']
  have hnd' := hW'.2.1
  have h0' := hW'.1
  have n4' : I' 39 4 = Int32.ofNat (t_nd H') := hH'.2.2.2.2.1
  have hod' : ∀ d', d' < 5 → F_X3_ofDish 39 (Int32.ofNat d') 1 (I', X') = some (t_hd H' (d' * 3 + 1)) := fun d' hd' => s_ofDish hB' hH' d' 1 hd' (by omega)
  obtain ⟨z', h2', h3'⟩ := p_lp (fun z' => B_X11_cheapest_4 36 z'.1 z'.2 (I', X')) (fun k' z' => z' = (Int32.ofNat (yq_am P' k'), Int32.ofNat (k' + 1))) (fun z' => z' = Int32.ofNat (yq_am P' (t_nd H' - 1))) (t_nd H' - 1) (by
    rintro k' z' hk' rfl
    have hl' : (Int32.ofNat (k' + 1) < Int32.ofNat (t_nd H')) = (k' + 1 < t_nd H') := p_lt _ _ (by omega) (by omega)
    unfold B_X11_cheapest_4 J_X11_cheapest_38_4
    by_cases hlt' : k' + 1 < t_nd H'
    · left
      have ham' := yq_amL P' k'
      have o1' := hod' (k' + 1) (by omega)
      have o2' := hod' (yq_am P' k') (by omega)
      have hPk' : P' (yq_am P' k') (k' + 1) = decide (t_hd H' ((k' + 1) * 3 + 1) < t_hd H' (yq_am P' k' * 3 + 1)) := by rw [hP']
      refine ⟨(Int32.ofNat (yq_am P' (k' + 1)), Int32.ofNat (k' + 1 + 1)), ?_, by omega, rfl⟩
      rw [yq_am, hPk']
      by_cases hc' : t_hd H' ((k' + 1) * 3 + 1) < t_hd H' (yq_am P' k' * 3 + 1)
      · simp (disch := omega) only [↓ce_36 hB', rf_36 hB', ↓ce_39 hB', rf_39 hB', ↓nn_38, ↓nn_40, ↓nn_41, ↓nn_42, ↓nn_43, ↓nn_44, ↓nn_45, ↓nn_50, ↓nn_52, ↓nn_53, ↓nn_54, ↓nn_56, ↓nn_58, ↓nn_64, ↓nn_67, ↓nn_68, ↓nn_84, p_bs, p_rq0, p_rq1, p_rz0, p_rz1, p_us, p_un, p_uj, ↓reduceIte, n4', hl', hlt', o1', o2', hc', decide_true, p_ar]
      · simp (disch := omega) only [↓ce_36 hB', rf_36 hB', ↓ce_39 hB', rf_39 hB', ↓nn_38, ↓nn_40, ↓nn_41, ↓nn_42, ↓nn_43, ↓nn_44, ↓nn_45, ↓nn_50, ↓nn_52, ↓nn_53, ↓nn_54, ↓nn_56, ↓nn_58, ↓nn_64, ↓nn_67, ↓nn_68, ↓nn_84, p_bs, p_rq0, p_rq1, p_rz0, p_rz1, p_us, p_un, p_uj, ↓reduceIte, n4', hl', hlt', o1', o2', hc', decide_false, Bool.false_eq_true, p_ar]
    · right
      have hk'' : k' = t_nd H' - 1 := by omega
      refine ⟨Int32.ofNat (yq_am P' k'), ?_, by rw [hk'']⟩
      simp (disch := omega) only [↓ce_36 hB', rf_36 hB', ↓ce_39 hB', rf_39 hB', ↓nn_38, ↓nn_40, ↓nn_41, ↓nn_42, ↓nn_43, ↓nn_44, ↓nn_45, ↓nn_50, ↓nn_52, ↓nn_53, ↓nn_54, ↓nn_56, ↓nn_58, ↓nn_64, ↓nn_67, ↓nn_68, ↓nn_84, p_bs, p_rq0, p_rq1, p_rz0, p_rz1, p_us, p_un, p_uj, ↓reduceIte, n4', hl', hlt']) (t_nd H' - 1) 0 q_fu (0, 1) (by omega) (by unfold q_fu; omega) rfl
  unfold F_X11_cheapest
  rw [h2', h3']
  rfl
theorem s_friends (hB' : p_B X') (hH' : t_HI H' I') (hW' : t_HW H') {d' : Nat} (hd' : d' < t_nd H') (l1' l2' : Int32) : q_lp (fun z' => B_X11_mostLiked_23 36 l1' l2' (Int32.ofNat d') z'.1 z'.2 (I', X')) q_fu ((0 : Int32), (0 : Int32)) = some (Int32.ofNat (yq_fr H' (I' 54) d' (t_ng H'))) := by
  have hnd' := hW'.2.1
  have hng' := hW'.2.2.2.1
  have n5' : I' 39 5 = Int32.ofNat (t_ng H') := hH'.2.2.2.2.2.1
  have hod' : F_X3_ofDish 39 (Int32.ofNat d') 2 (I', X') = some (t_hd H' (d' * 3 + 2)) := s_ofDish hB' hH' d' 2 (by omega) (by omega)
  obtain ⟨z', h2', h3'⟩ := p_lp (fun z' => B_X11_mostLiked_23 36 l1' l2' (Int32.ofNat d') z'.1 z'.2 (I', X')) (fun k' z' => z' = (Int32.ofNat (yq_fr H' (I' 54) d' k'), Int32.ofNat k')) (fun z' => z' = Int32.ofNat (yq_fr H' (I' 54) d' (t_ng H'))) (t_ng H') (by
    rintro k' z' hk' rfl
    have hl' : (Int32.ofNat k' < Int32.ofNat (t_ng H')) = (k' < t_ng H') := p_lt _ _ (by omega) (by omega)
    unfold B_X11_mostLiked_23 J_X11_mostLiked_79_23
    by_cases hlt' : k' < t_ng H'
    · left
      have hth' : F_X1_isThere 63 53 (Int32.ofNat k') (I', X') = some (t_b (t_th H' (I' 54) k')) := s_isThere (k' := 53) hB' hH' (by omega) k' (by omega)
      have hix' : (19 : Int32) + Int32.ofNat k' = Int32.ofNat (19 + k') := (Int32.ofNat_add 19 k').symm
      refine ⟨(Int32.ofNat (yq_fr H' (I' 54) d' (k' + 1)), Int32.ofNat (k' + 1)), ?_, hlt', rfl⟩
      have e1' : yq_fr H' (I' 54) d' (k' + 1) = yq_fr H' (I' 54) d' k' + (if (t_th H' (I' 54) k' && decide (I' 54 (19 + k') = t_hd H' (d' * 3 + 2))) = true then 1 else 0) := rfl
      rw [e1']
      cases ht' : t_th H' (I' 54) k'
      · rw [ht'] at hth'
        simp (disch := omega) only [↓ce_36 hB', rf_36 hB', ↓ce_39 hB', rf_39 hB', ↓ce_53 hB', rf_53 hB', ↓ce_63 hB', rf_63 hB', ↓nn_38, ↓nn_40, ↓nn_41, ↓nn_42, ↓nn_43, ↓nn_44, ↓nn_45, ↓nn_50, ↓nn_52, ↓nn_53, ↓nn_54, ↓nn_55, ↓nn_56, ↓nn_58, ↓nn_64, ↓nn_65, ↓nn_66, ↓nn_67, ↓nn_68, ↓nn_84, p_bs, p_rq0, p_rq1, p_rz0, p_rz1, p_us, p_un, p_uj, ↓reduceIte, n5', hl', hlt', hth', t_b0, Bool.false_and, Bool.false_eq_true, Nat.add_zero, p_ar]
      · rw [ht'] at hth'
        by_cases hc' : I' 54 (19 + k') = t_hd H' (d' * 3 + 2)
        · simp (disch := omega) only [↓ce_36 hB', rf_36 hB', ↓ce_39 hB', rf_39 hB', ↓ce_53 hB', rf_53 hB', ↓ce_54 hB', ↓ce_63 hB', rf_63 hB', ↓nn_38, ↓nn_40, ↓nn_41, ↓nn_42, ↓nn_43, ↓nn_44, ↓nn_45, ↓nn_50, ↓nn_52, ↓nn_53, ↓nn_54, ↓nn_55, ↓nn_56, ↓nn_58, ↓nn_64, ↓nn_65, ↓nn_66, ↓nn_67, ↓nn_68, ↓nn_84, p_bs, p_rq0, p_rq1, p_rz0, p_rz1, p_us, p_un, p_uj, ↓reduceIte, n5', hl', hlt', hth', t_b0, Bool.true_eq_false, hix', hod', hc', decide_true, Bool.and_self, p_ar]
        · simp (disch := omega) only [↓ce_36 hB', rf_36 hB', ↓ce_39 hB', rf_39 hB', ↓ce_53 hB', rf_53 hB', ↓ce_54 hB', ↓ce_63 hB', rf_63 hB', ↓nn_38, ↓nn_40, ↓nn_41, ↓nn_42, ↓nn_43, ↓nn_44, ↓nn_45, ↓nn_50, ↓nn_52, ↓nn_53, ↓nn_54, ↓nn_55, ↓nn_56, ↓nn_58, ↓nn_64, ↓nn_65, ↓nn_66, ↓nn_67, ↓nn_68, ↓nn_84, p_bs, p_rq0, p_rq1, p_rz0, p_rz1, p_us, p_un, p_uj, ↓reduceIte, n5', hl', hlt', hth', t_b0, Bool.true_eq_false, hix', hod', hc', decide_false, Bool.and_false, Bool.false_eq_true, Nat.add_zero, p_ar]
    · right
      have hk'' : k' = t_ng H' := by omega
      refine ⟨Int32.ofNat (yq_fr H' (I' 54) d' k'), ?_, by rw [hk'']⟩
      simp (disch := omega) only [↓ce_36 hB', rf_36 hB', ↓ce_39 hB', rf_39 hB', ↓nn_38, ↓nn_40, ↓nn_41, ↓nn_42, ↓nn_43, ↓nn_44, ↓nn_45, ↓nn_50, ↓nn_52, ↓nn_53, ↓nn_54, ↓nn_56, ↓nn_58, ↓nn_64, ↓nn_67, ↓nn_68, ↓nn_84, p_bs, p_rq0, p_rq1, p_rz0, p_rz1, p_us, p_un, p_uj, ↓reduceIte, n5', hl', hlt']) (t_ng H') 0 q_fu (0, 0) (by omega) (by unfold q_fu; omega) rfl
  rw [h2', h3']
theorem yq_frL (H' : t_H) (s' : Nat → Int32) (d' n' : Nat) : yq_fr H' s' d' n' ≤ n' := t_cnL _ _
theorem s_mostLiked (hB' : p_B X') (hH' : t_HI H' I') (hW' : t_HW H') : F_X11_mostLiked 36 (I', X') = some (Int32.ofNat (yq_am (fun x' y' => decide (yq_fr H' (I' 54) x' (t_ng H') < yq_fr H' (I' 54) y' (t_ng H'))) (t_nd H' - 1))) := by
  obtain ⟨P', hP'⟩ : ∃ P' : Nat → Nat → Bool, P' = (fun x' y' => decide (yq_fr H' (I' 54) x' (t_ng H') < yq_fr H' (I' 54) y' (t_ng H'))) := ⟨_, rfl⟩
  rw [← hP']
  have hnd' := hW'.2.1
  have hng' := hW'.2.2.2.1
  have h0' := hW'.1
  have n4' : I' 39 4 = Int32.ofNat (t_nd H') := hH'.2.2.2.2.1
  obtain ⟨z', h2', h3'⟩ := p_lp (fun z' => B_X11_mostLiked_6 36 z'.1 z'.2.1 z'.2.2 (I', X')) (fun k' z' => z' = (Int32.ofNat (yq_am P' (k' - 1)), (if k' = 0 then -1 else Int32.ofNat (yq_fr H' (I' 54) (yq_am P' (k' - 1)) (t_ng H'))), Int32.ofNat k')) (fun z' => z' = Int32.ofNat (yq_am P' (t_nd H' - 1))) (t_nd H') (by
    rintro k' z' hk' rfl
    have hl' : (Int32.ofNat k' < Int32.ofNat (t_nd H')) = (k' < t_nd H') := p_lt _ _ (by omega) (by omega)
    unfold B_X11_mostLiked_6 J_X11_mostLiked_96_6
    by_cases hlt' : k' < t_nd H'
    · left
      have hfr' := s_friends (X' := X') (I' := I') hB' hH' hW' hlt' (Int32.ofNat (yq_am P' (k' - 1))) (if k' = 0 then -1 else Int32.ofNat (yq_fr H' (I' 54) (yq_am P' (k' - 1)) (t_ng H')))
      have hL1' := yq_frL H' (I' 54) k' (t_ng H')
      refine ⟨(Int32.ofNat (yq_am P' (k' + 1 - 1)), (if k' + 1 = 0 then -1 else Int32.ofNat (yq_fr H' (I' 54) (yq_am P' (k' + 1 - 1)) (t_ng H'))), Int32.ofNat (k' + 1)), ?_, hlt', rfl⟩
      have k1' : (k' + 1 = 0) = False := by simp
      by_cases hk0' : k' = 0
      · subst hk0'
        have hm1' : ((-1 : Int32) < Int32.ofNat (yq_fr H' (I' 54) 0 (t_ng H'))) = True := by
          apply eq_true
          rw [Int32.lt_iff_toInt_lt, p_toI _ (by omega), show (-1 : Int32).toInt = -1 from by decide]
          omega
        simp only [↓reduceIte] at hfr' ⊢
        simp (disch := omega) only [↓ce_36 hB', rf_36 hB', ↓ce_39 hB', rf_39 hB', ↓nn_38, ↓nn_40, ↓nn_41, ↓nn_42, ↓nn_43, ↓nn_44, ↓nn_45, ↓nn_50, ↓nn_52, ↓nn_53, ↓nn_54, ↓nn_56, ↓nn_58, ↓nn_64, ↓nn_67, ↓nn_68, ↓nn_84, p_bs, p_rq0, p_rq1, p_rz0, p_rz1, p_us, p_un, p_uj, ↓reduceIte, n4', hl', hlt', hfr', hm1', p_ar]
        rfl
      · obtain ⟨q', rfl⟩ : ∃ q', k' = q' + 1 := ⟨k' - 1, by omega⟩
        have q0' : (q' + 1 = 0) = False := by simp
        have ham' := yq_amL P' q'
        have hL2' := yq_frL H' (I' 54) (yq_am P' q') (t_ng H')
        have hPk' : P' (yq_am P' q') (q' + 1) = decide (yq_fr H' (I' 54) (yq_am P' q') (t_ng H') < yq_fr H' (I' 54) (q' + 1) (t_ng H')) := by rw [hP']
        simp only [q0', k1', ↓reduceIte, Nat.add_sub_cancel] at hfr' ⊢
        rw [yq_am, hPk']
        have hcmp : (Int32.ofNat (yq_fr H' (I' 54) (yq_am P' q') (t_ng H')) < Int32.ofNat (yq_fr H' (I' 54) (q' + 1) (t_ng H'))) = (yq_fr H' (I' 54) (yq_am P' q') (t_ng H') < yq_fr H' (I' 54) (q' + 1) (t_ng H')) := p_lt _ _ (by omega) (by omega)
        by_cases hc' : yq_fr H' (I' 54) (yq_am P' q') (t_ng H') < yq_fr H' (I' 54) (q' + 1) (t_ng H')
        · simp (disch := omega) only [↓ce_36 hB', rf_36 hB', ↓ce_39 hB', rf_39 hB', ↓nn_38, ↓nn_40, ↓nn_41, ↓nn_42, ↓nn_43, ↓nn_44, ↓nn_45, ↓nn_50, ↓nn_52, ↓nn_53, ↓nn_54, ↓nn_56, ↓nn_58, ↓nn_64, ↓nn_67, ↓nn_68, ↓nn_84, p_bs, p_rq0, p_rq1, p_rz0, p_rz1, p_us, p_un, p_uj, ↓reduceIte, n4', hl', hlt', hfr', hcmp, hc', decide_true, p_ar]
        · simp (disch := omega) only [↓ce_36 hB', rf_36 hB', ↓ce_39 hB', rf_39 hB', ↓nn_38, ↓nn_40, ↓nn_41, ↓nn_42, ↓nn_43, ↓nn_44, ↓nn_45, ↓nn_50, ↓nn_52, ↓nn_53, ↓nn_54, ↓nn_56, ↓nn_58, ↓nn_64, ↓nn_67, ↓nn_68, ↓nn_84, p_bs, p_rq0, p_rq1, p_rz0, p_rz1, p_us, p_un, p_uj, ↓reduceIte, n4', hl', hlt', hfr', hcmp, hc', decide_false, Bool.false_eq_true, p_ar]
    · right
      have hk'' : k' = t_nd H' := by omega
      refine ⟨Int32.ofNat (yq_am P' (k' - 1)), ?_, by rw [hk'']⟩
      simp (disch := omega) only [↓ce_36 hB', rf_36 hB', ↓ce_39 hB', rf_39 hB', ↓nn_38, ↓nn_40, ↓nn_41, ↓nn_42, ↓nn_43, ↓nn_44, ↓nn_45, ↓nn_50, ↓nn_52, ↓nn_53, ↓nn_54, ↓nn_56, ↓nn_58, ↓nn_64, ↓nn_67, ↓nn_68, ↓nn_84, p_bs, p_rq0, p_rq1, p_rz0, p_rz1, p_us, p_un, p_uj, ↓reduceIte, n4', hl', hlt']) (t_nd H') 0 q_fu (0, -1, 0) (by omega) (by unfold q_fu; omega) rfl
  unfold F_X11_mostLiked
  rw [h2', h3']
  rfl
theorem s_lastDay (hB' : p_B X') (hH' : t_HI H' I') (hW' : t_HW H') : F_X11_lastDay 36 (I', X') = some (yq_la H' (I' 54) (t_ng H')) := by
  have hng' := hW'.2.2.2.1
  have n5' : I' 39 5 = Int32.ofNat (t_ng H') := hH'.2.2.2.2.2.1
  obtain ⟨z', h2', h3'⟩ := p_lp (fun z' => B_X11_lastDay_4 36 z'.1 z'.2 (I', X')) (fun k' z' => z' = (yq_la H' (I' 54) k', Int32.ofNat k')) (fun z' => z' = yq_la H' (I' 54) (t_ng H')) (t_ng H') (by
    rintro k' z' hk' rfl
    have hl' : (Int32.ofNat k' < Int32.ofNat (t_ng H')) = (k' < t_ng H') := p_lt _ _ (by omega) (by omega)
    unfold B_X11_lastDay_4 J_X11_lastDay_55_4
    by_cases hlt' : k' < t_ng H'
    · left
      have hlf' : F_X8_hasLeft 53 (Int32.ofNat k') (I', X') = some (t_b (t_bit (I' 54 4) k')) := s_hasLeft (I' := I') (k' := 53) hB' (by omega) k'
      have hog' : F_X3_ofGuest 39 (Int32.ofNat k') 0 (I', X') = some (t_hg H' (k' * 4)) := s_ofGuest hB' hH' k' 0 (by omega) (by omega)
      have hix' : (13 : Int32) + Int32.ofNat k' = Int32.ofNat (13 + k') := (Int32.ofNat_add 13 k').symm
      refine ⟨(yq_la H' (I' 54) (k' + 1), Int32.ofNat (k' + 1)), ?_, hlt', rfl⟩
      rw [yq_la]
      cases ht' : t_bit (I' 54 4) k'
      · rw [ht'] at hlf'
        simp (disch := omega) only [↓ce_36 hB', rf_36 hB', ↓ce_39 hB', rf_39 hB', ↓ce_53 hB', rf_53 hB', ↓ce_54 hB', ↓nn_38, ↓nn_40, ↓nn_41, ↓nn_42, ↓nn_43, ↓nn_44, ↓nn_45, ↓nn_50, ↓nn_52, ↓nn_53, ↓nn_54, ↓nn_55, ↓nn_56, ↓nn_58, ↓nn_64, ↓nn_67, ↓nn_68, ↓nn_84, p_bs, p_rq0, p_rq1, p_rz0, p_rz1, p_us, p_un, p_uj, ↓reduceIte, n5', hl', hlt', hlf', t_b0, Bool.false_eq_true, hog', hix', p_ar]
      · rw [ht'] at hlf'
        simp (disch := omega) only [↓ce_36 hB', rf_36 hB', ↓ce_39 hB', rf_39 hB', ↓ce_53 hB', rf_53 hB', ↓nn_38, ↓nn_40, ↓nn_41, ↓nn_42, ↓nn_43, ↓nn_44, ↓nn_45, ↓nn_50, ↓nn_52, ↓nn_53, ↓nn_54, ↓nn_55, ↓nn_56, ↓nn_58, ↓nn_64, ↓nn_67, ↓nn_68, ↓nn_84, p_bs, p_rq0, p_rq1, p_rz0, p_rz1, p_us, p_un, p_uj, ↓reduceIte, n5', hl', hlt', hlf', t_b0, Bool.true_eq_false, p_ar]
    · right
      have hk'' : k' = t_ng H' := by omega
      refine ⟨yq_la H' (I' 54) k', ?_, by rw [hk'']⟩
      simp (disch := omega) only [↓ce_36 hB', rf_36 hB', ↓ce_39 hB', rf_39 hB', ↓nn_38, ↓nn_40, ↓nn_41, ↓nn_42, ↓nn_43, ↓nn_44, ↓nn_45, ↓nn_50, ↓nn_52, ↓nn_53, ↓nn_54, ↓nn_56, ↓nn_58, ↓nn_64, ↓nn_67, ↓nn_68, ↓nn_84, p_bs, p_rq0, p_rq1, p_rz0, p_rz1, p_us, p_un, p_uj, ↓reduceIte, n5', hl', hlt']) (t_ng H') 0 q_fu (-1, 0) (by omega) (by unfold q_fu; omega) rfl
  unfold F_X11_lastDay
  rw [h2', h3']
  rfl
theorem s_takings (hB' : p_B X') (hH' : t_HI H' I') (hW' : t_HW H') : F_X11_takings 36 (I', X') = some (yq_tk H' (I' 54) (t_ng H')) := by
  have hng' := hW'.2.2.2.1
  have n5' : I' 39 5 = Int32.ofNat (t_ng H') := hH'.2.2.2.2.2.1
  obtain ⟨z', h2', h3'⟩ := p_lp (fun z' => B_X11_takings_4 36 z'.1 z'.2 (I', X')) (fun k' z' => z' = (yq_tk H' (I' 54) k', Int32.ofNat k')) (fun z' => z' = yq_tk H' (I' 54) (t_ng H')) (t_ng H') (by
    rintro k' z' hk' rfl
    have hl' : (Int32.ofNat k' < Int32.ofNat (t_ng H')) = (k' < t_ng H') := p_lt _ _ (by omega) (by omega)
    unfold B_X11_takings_4 J_X11_takings_42_4
    by_cases hlt' : k' < t_ng H'
    · left
      have hth' : F_X1_isThere 63 53 (Int32.ofNat k') (I', X') = some (t_b (t_th H' (I' 54) k')) := s_isThere (k' := 53) hB' hH' (by omega) k' (by omega)
      have hog' : F_X3_ofGuest 39 (Int32.ofNat k') 3 (I', X') = some (t_hg H' (k' * 4 + 3)) := s_ofGuest hB' hH' k' 3 (by omega) (by omega)
      refine ⟨(yq_tk H' (I' 54) (k' + 1), Int32.ofNat (k' + 1)), ?_, hlt', rfl⟩
      rw [yq_tk]
      cases ht' : t_th H' (I' 54) k'
      · rw [ht'] at hth'
        simp (disch := omega) only [↓ce_36 hB', rf_36 hB', ↓ce_39 hB', rf_39 hB', ↓ce_53 hB', rf_53 hB', ↓ce_63 hB', rf_63 hB', ↓nn_38, ↓nn_40, ↓nn_41, ↓nn_42, ↓nn_43, ↓nn_44, ↓nn_45, ↓nn_50, ↓nn_52, ↓nn_53, ↓nn_54, ↓nn_55, ↓nn_56, ↓nn_58, ↓nn_64, ↓nn_65, ↓nn_66, ↓nn_67, ↓nn_68, ↓nn_84, p_bs, p_rq0, p_rq1, p_rz0, p_rz1, p_us, p_un, p_uj, ↓reduceIte, n5', hl', hlt', hth', t_b0, Bool.false_eq_true, p_ar]
      · rw [ht'] at hth'
        simp (disch := omega) only [↓ce_36 hB', rf_36 hB', ↓ce_39 hB', rf_39 hB', ↓ce_53 hB', rf_53 hB', ↓ce_63 hB', rf_63 hB', ↓nn_38, ↓nn_40, ↓nn_41, ↓nn_42, ↓nn_43, ↓nn_44, ↓nn_45, ↓nn_50, ↓nn_52, ↓nn_53, ↓nn_54, ↓nn_55, ↓nn_56, ↓nn_58, ↓nn_64, ↓nn_65, ↓nn_66, ↓nn_67, ↓nn_68, ↓nn_84, p_bs, p_rq0, p_rq1, p_rz0, p_rz1, p_us, p_un, p_uj, ↓reduceIte, n5', hl', hlt', hth', t_b0, Bool.true_eq_false, hog', p_ar]
    · right
      have hk'' : k' = t_ng H' := by omega
      refine ⟨yq_tk H' (I' 54) k', ?_, by rw [hk'']⟩
      simp (disch := omega) only [↓ce_36 hB', rf_36 hB', ↓ce_39 hB', rf_39 hB', ↓nn_38, ↓nn_40, ↓nn_41, ↓nn_42, ↓nn_43, ↓nn_44, ↓nn_45, ↓nn_50, ↓nn_52, ↓nn_53, ↓nn_54, ↓nn_56, ↓nn_58, ↓nn_64, ↓nn_67, ↓nn_68, ↓nn_84, p_bs, p_rq0, p_rq1, p_rz0, p_rz1, p_us, p_un, p_uj, ↓reduceIte, n5', hl', hlt']) (t_ng H') 0 q_fu (0, 0) (by omega) (by unfold q_fu; omega) rfl
  unfold F_X11_takings
  rw [h2', h3']
  rfl
end PY'
