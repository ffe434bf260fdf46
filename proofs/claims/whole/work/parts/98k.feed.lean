/-! feed: bytes -/
def yq_bt (v' : Int32) (s' : Nat) : Nat := ((v'.toBitVec >>> s') &&& 255#32).toNat
theorem yq_btL (v' : Int32) (s' : Nat) : yq_bt v' s' < 256 := by
  unfold yq_bt
  rw [BitVec.toNat_and]
  exact Nat.lt_of_le_of_lt Nat.and_le_right (by decide)
theorem yq_shr (x' : BitVec 32) (s' : Nat) (hs' : s' ≤ 24) : x'.sshiftRight s' &&& 255#32 = (x' >>> s') &&& 255#32 := by
  apply BitVec.eq_of_getLsbD_eq
  intro i' hi'
  rw [BitVec.getLsbD_and, BitVec.getLsbD_and]
  by_cases h' : i' < 8
  · rw [BitVec.getLsbD_sshiftRight, BitVec.getLsbD_ushiftRight, if_pos (by omega)]
    have : decide (32 ≤ i') = false := by simp; omega
    rw [this]; rfl
  · have h2' : ∀ i' : Fin 32, ¬ (i' : Nat) < 8 → (255#32).getLsbD i' = false := by decide
    rw [h2' ⟨i', hi'⟩ h', Bool.and_false, Bool.and_false]
theorem yq_btC (v' : Int32) (s' : Nat) (hs' : s' = 24 ∨ s' = 16 ∨ s' = 8 ∨ s' = 0) : ((v'.toUInt32 >>> ((Int32.ofNat s').toUInt32 &&& Int32.toUInt32 31)).toInt32 &&& (255 : Int32)) = Int32.ofNat (yq_bt v' s') := by
  apply Int32.toBitVec_inj.mp
  have e' : (Int32.ofNat (yq_bt v' s')).toBitVec = (v'.toBitVec >>> s') &&& 255#32 := by
    show BitVec.ofNat 32 (yq_bt v' s') = _
    unfold yq_bt
    exact BitVec.ofNat_toNat _ _ |>.trans (BitVec.setWidth_eq _)
  rw [e']
  rcases hs' with rfl | rfl | rfl | rfl <;> rfl
theorem yq_btM (v' : Int32) (s' : Nat) (hs' : s' = 24 ∨ s' = 16 ∨ s' = 8 ∨ s' = 0) : ((v' >>> (Int32.ofNat s' &&& 31)) &&& (255 : Int32)) = Int32.ofNat (yq_bt v' s') := by
  apply Int32.toBitVec_inj.mp
  have e' : (Int32.ofNat (yq_bt v' s')).toBitVec = (v'.toBitVec >>> s') &&& 255#32 := by
    show BitVec.ofNat 32 (yq_bt v' s') = _
    unfold yq_bt
    exact BitVec.ofNat_toNat _ _ |>.trans (BitVec.setWidth_eq _)
  rw [e', ← yq_shr _ _ (by omega)]
  rcases hs' with rfl | rfl | rfl | rfl <;> rfl
theorem yq_low (x' : Int32) : x'.toInt8 = (x' &&& 255).toInt8 := by
  apply Int8.toBitVec_inj.mp
  rw [Int32.toBitVec_toInt8, Int32.toBitVec_toInt8]
  apply BitVec.eq_of_getLsbD_eq
  intro i' hi'
  rw [BitVec.getLsbD_signExtend, BitVec.getLsbD_signExtend, if_pos (by omega), if_pos (by omega)]
  show _ = (decide (i' < 8) && (x'.toBitVec &&& 255#32).getLsbD i')
  rw [BitVec.getLsbD_and]
  have h2' : ∀ i' : Fin 8, (255#32).getLsbD i' = true := by decide
  rw [h2' ⟨i', hi'⟩, Bool.and_true]
theorem yq_by2 (b' : Nat) (h' : b' < 256) : ((Int32.ofNat b').toInt8.toInt32).toInt8.toInt32 = t_by b' := by
  have hh' : ∀ x' : Fin 256, ((Int32.ofNat x').toInt8.toInt32).toInt8.toInt32 = t_by x' := by decide +kernel
  exact hh' ⟨b', h'⟩
theorem yq_btS (v' : Int32) (s' : Nat) (hs' : s' = 24 ∨ s' = 16 ∨ s' = 8 ∨ s' = 0) : ((v' >>> (Int32.ofNat s' &&& 31)).toInt8.toInt32).toInt8.toInt32 = t_by (yq_bt v' s') := by
  rw [yq_low (v' >>> (Int32.ofNat s' &&& 31)), yq_btM v' s' hs', yq_by2 _ (yq_btL v' s')]
def yq_s (i' : Nat) : Int32 := match i' with
  | 0 => 24 | 1 => 16 | 2 => 8 | 3 => 0 | _ => -8
theorem yq_sF {i' : Nat} (h' : i' < 4) : yq_s i' = Int32.ofNat (24 - 8 * i') ∧ (yq_s i' < 0) = False ∧ yq_s i' + -8 = yq_s (i' + 1) ∧ (24 - 8 * i' = 24 ∨ 24 - 8 * i' = 16 ∨ 24 - 8 * i' = 8 ∨ 24 - 8 * i' = 0) := by
  have ho' : i' = 0 ∨ i' = 1 ∨ i' = 2 ∨ i' = 3 := by omega
  rcases ho' with rfl | rfl | rfl | rfl <;> refine ⟨rfl, ?_, by decide, by decide⟩ <;> exact eq_false (by decide)
def yq_ct (v' : Int32) (k' : Nat) : Nat := t_cn (fun i' => !decide (yq_bt v' (24 - 8 * i') = 0)) k'
theorem yq_ctL (v' : Int32) (k' : Nat) : yq_ct v' k' ≤ k' := t_cnL _ _
theorem yq_ctS (v' : Int32) (k' : Nat) : yq_ct v' (k' + 1) = yq_ct v' k' + (if yq_bt v' (24 - 8 * k') = 0 then 0 else 1) := by
  unfold yq_ct
  rw [t_cn]
  by_cases h' : yq_bt v' (24 - 8 * k') = 0 <;> simp [h']
theorem yq_ctM (v' : Int32) {i' k' : Nat} (h' : i' ≤ k') : yq_ct v' i' ≤ yq_ct v' k' := by
  induction k' with
  | zero => rw [show i' = 0 by omega]; exact Nat.le_refl _
  | succ k' ih' =>
    by_cases e' : i' = k' + 1
    · rw [e']; exact Nat.le_refl _
    · have := ih' (by omega); rw [yq_ctS]; omega
theorem yq_z (b' : Nat) (h' : b' < 256) : (Int32.ofNat b' = 0) = (b' = 0) := by
  apply propext
  exact ⟨fun e' => p_inj (show Int32.ofNat b' = Int32.ofNat 0 from e') (by omega) (by omega), fun e' => by rw [e']; rfl⟩
theorem s_bytesC (v' : Int32) (M' : q_Mem) : F_X9_bytesIn v' M' = some (Int32.ofNat (yq_ct v' 4)) := by
  obtain ⟨z', h2', h3'⟩ := p_lp (fun z' => B_X9_bytesIn_5 v' z'.1 z'.2 M') (fun k' z' => z' = (Int32.ofNat (yq_ct v' k'), yq_s k')) (fun z' => z' = Int32.ofNat (yq_ct v' 4)) 4 (by
    rintro k' z' hk' rfl
    unfold B_X9_bytesIn_5 J_X9_bytesIn_22_5
    by_cases hlt' : k' < 4
    · left
      obtain ⟨s1', s2', s3', s4'⟩ := yq_sF hlt'
      have hb' := yq_btC v' _ s4'
      rw [← s1'] at hb'
      have hz' := yq_z _ (yq_btL v' (24 - 8 * k'))
      refine ⟨(Int32.ofNat (yq_ct v' (k' + 1)), yq_s (k' + 1)), ?_, hlt', rfl⟩
      rw [yq_ctS]
      by_cases hc' : yq_bt v' (24 - 8 * k') = 0
      · simp only [s2', hb', hz', hc', s3', ↓reduceIte, Nat.add_zero, show (Int32.ofNat 0 = 0) = True from by decide]
      · simp only [s2', hb', hz', hc', s3', ↓reduceIte, p_ar]
    · right
      have hk'' : k' = 4 := by omega
      subst hk''
      refine ⟨Int32.ofNat (yq_ct v' 4), ?_, rfl⟩
      simp only [show (yq_s 4 < 0) = True from eq_true (by decide), ↓reduceIte]) 4 0 q_fu (0, 24) (by omega) (by unfold q_fu; omega) rfl
  unfold F_X9_bytesIn
  rw [h2', h3']
  rfl
theorem s_bytesM (v' : Int32) (M' : q_Mem) : F_X12_bytesIn v' M' = some (Int32.ofNat (yq_ct v' 4)) := by
  obtain ⟨z', h2', h3'⟩ := p_lp (fun z' => B_X12_bytesIn_5 v' z'.1 z'.2 M') (fun k' z' => z' = (Int32.ofNat (yq_ct v' k'), yq_s k')) (fun z' => z' = Int32.ofNat (yq_ct v' 4)) 4 (by
    rintro k' z' hk' rfl
    unfold B_X12_bytesIn_5 J_X12_bytesIn_25_5
    by_cases hlt' : k' < 4
    · left
      obtain ⟨s1', s2', s3', s4'⟩ := yq_sF hlt'
      have hb' := yq_btM v' _ s4'
      rw [← s1'] at hb'
      have hz' := yq_z _ (yq_btL v' (24 - 8 * k'))
      refine ⟨(Int32.ofNat (yq_ct v' (k' + 1)), yq_s (k' + 1)), ?_, hlt', rfl⟩
      rw [yq_ctS]
      by_cases hc' : yq_bt v' (24 - 8 * k') = 0
      · simp only [s2', hb', hz', hc', s3', ↓reduceIte, p_ar, show (Int32.ofNat 0 = 0) = True from by decide]
      · simp only [s2', hb', hz', hc', s3', ↓reduceIte, p_ar]
    · right
      have hk'' : k' = 4 := by omega
      subst hk''
      refine ⟨Int32.ofNat (yq_ct v' 4), ?_, rfl⟩
      simp only [show (yq_s 4 < 0) = True from eq_true (by decide), ↓reduceIte]) 4 0 q_fu (0, 24) (by omega) (by unfold q_fu; omega) rfl
  unfold F_X12_bytesIn
  rw [h2', h3']
  rfl
/-- a text with bytes behind it -/
def yq_ap (v' : Int32) (t' : (Nat → Nat) × Nat) : Nat → (Nat → Nat) × Nat
  | 0 => t'
  | k' + 1 => if yq_bt v' (24 - 8 * k') = 0 then yq_ap v' t' k' else (fun x' => if x' = (yq_ap v' t' k').2 then yq_bt v' (24 - 8 * k') else (yq_ap v' t' k').1 x', (yq_ap v' t' k').2 + 1)
theorem yq_apN (v' : Int32) (t' : (Nat → Nat) × Nat) (k' : Nat) : (yq_ap v' t' k').2 = t'.2 + yq_ct v' k' := by
  induction k' with
  | zero => rfl
  | succ k' ih' =>
    rw [yq_ap, yq_ctS]
    split
    · rw [ih']; rfl
    · show (yq_ap v' t' k').2 + 1 = _
      rw [ih']; omega
theorem yq_apB (v' : Int32) (t' : (Nat → Nat) × Nat) (h' : ∀ i', i' < t'.2 → t'.1 i' < 256) (k' : Nat) : ∀ i', i' < (yq_ap v' t' k').2 → (yq_ap v' t' k').1 i' < 256 := by
  induction k' with
  | zero => exact h'
  | succ k' ih' =>
    intro i' hi'
    rw [yq_ap] at hi' ⊢
    split at hi'
    · rename_i hc'
      rw [if_pos hc']; exact ih' i' hi'
    · rename_i hc'
      rw [if_neg hc']
      show (if i' = (yq_ap v' t' k').2 then yq_bt v' (24 - 8 * k') else (yq_ap v' t' k').1 i') < 256
      have hi'' : i' < (yq_ap v' t' k').2 + 1 := hi'
      split
      · exact yq_btL _ _
      · exact ih' i' (by omega)
section PF'
variable {X' : p_X} {I' : p_I}
theorem s_appC (hB' : p_B X') (v' : Int32) {t' : (Nat → Nat) × Nat} (hn' : t'.2 + yq_ct v' 4 ≤ 240) (h1' : I' 37 1 = Int32.ofNat t'.2) (h38' : ∀ i', i' < t'.2 → I' 38 i' = t_by (t'.1 i')) : ∃ J', F_X9_append 37 v' (I', X') = some ((), (J', X')) ∧ (∀ c', c' ≠ 37 → c' ≠ 38 → J' c' = I' c') ∧ (∀ j', j' ≠ 1 → J' 37 j' = I' 37 j') ∧ J' 37 1 = Int32.ofNat (yq_ap v' t' 4).2 ∧ (∀ i', i' < (yq_ap v' t' 4).2 → J' 38 i' = t_by ((yq_ap v' t' 4).1 i')) := by
  obtain ⟨z', h2', J', rfl, j1', j2', j3', j4'⟩ := p_lp (fun z' => B_X9_append_3 37 v' z'.1 z'.2) (fun k' z' => ∃ J', z' = (yq_s k', (J', X')) ∧ (∀ c', c' ≠ 37 → c' ≠ 38 → J' c' = I' c') ∧ (∀ j', j' ≠ 1 → J' 37 j' = I' 37 j') ∧ J' 37 1 = Int32.ofNat (yq_ap v' t' k').2 ∧ (∀ i', i' < (yq_ap v' t' k').2 → J' 38 i' = t_by ((yq_ap v' t' k').1 i')))
    (fun z' => ∃ J', z' = (J', X') ∧ (∀ c', c' ≠ 37 → c' ≠ 38 → J' c' = I' c') ∧ (∀ j', j' ≠ 1 → J' 37 j' = I' 37 j') ∧ J' 37 1 = Int32.ofNat (yq_ap v' t' 4).2 ∧ (∀ i', i' < (yq_ap v' t' 4).2 → J' 38 i' = t_by ((yq_ap v' t' 4).1 i'))) 4 (by
      rintro k' z' hk' ⟨J', rfl, j1', j2', j3', j4'⟩
      unfold B_X9_append_3 J_X9_append_50_3
      by_cases hlt' : k' < 4
      · left
        obtain ⟨s1', s2', s3', s4'⟩ := yq_sF hlt'
        have hb' := yq_btC v' _ s4'
        rw [← s1'] at hb'
        have hz' := yq_z _ (yq_btL v' (24 - 8 * k'))
        by_cases hc' : yq_bt v' (24 - 8 * k') = 0
        · refine ⟨(yq_s (k' + 1), (J', X')), ?_, hlt', J', rfl, j1', j2', ?_, ?_⟩
          · simp only [s2', hb', hz', hc', s3', ↓reduceIte, show (Int32.ofNat 0 = 0) = True from by decide]
          · rw [yq_ap, if_pos hc']; exact j3'
          · rw [yq_ap, if_pos hc']; exact j4'
        · have hm' := yq_ctM v' (show k' + 1 ≤ 4 by omega)
          rw [yq_ctS, if_neg hc'] at hm'
          have hN' := yq_apN v' t' k'
          have hlt2' : (Int32.ofNat (yq_ap v' t' k').2 < 240) = True := by
            rw [show (240 : Int32) = Int32.ofNat 240 from rfl, p_lt _ 240 (by omega) (by decide)]
            apply eq_true; omega
          have hby' := yq_by2 _ (yq_btL v' (24 - 8 * k'))
          generalize hm'' : (yq_ap v' t' k').2 = m' at *
          refine ⟨(yq_s (k' + 1), (q_u2 (q_u2 J' 38 m' (t_by (yq_bt v' (24 - 8 * k')))) 37 1 (Int32.ofNat (m' + 1)), X')), ?_, hlt', _, rfl, fun c' z1' z2' => by rw [p_uc _ _ _ _ _ z1', p_uc _ _ _ _ _ z2']; exact j1' c' z1' z2', fun j' hj' => by rw [p_uj _ _ _ _ _ hj', p_uc _ _ _ _ _ (by decide)]; exact j2' j' hj', ?_, ?_⟩
          · have l1' : q_u2 J' 38 m' (t_by (yq_bt v' (24 - 8 * k'))) 37 1 = Int32.ofNat m' := by rw [p_uc _ _ _ _ _ (by decide)]; exact j3'
            simp (disch := omega) only [↓ce_37 hB', rf_37 hB', ↓ce_38 hB', ↓nn_39, p_bs, p_rq0, p_rq1, p_rz0, p_rz1, p_us, p_un, p_uj, ↓reduceIte, s2', hb', hz', hc', s3', j3', hlt2', hby']
            simp (disch := omega) only [↓ce_37 hB', rf_37 hB', ↓nn_39, p_bs, p_rq0, p_rq1, p_rz0, p_rz1, p_us, p_un, p_uj, ↓reduceIte, l1', p_ar]
          · rw [p_us, yq_ap, if_neg hc']
            show _ = Int32.ofNat ((yq_ap v' t' k').2 + 1)
            rw [hm'']
          · rw [yq_ap, if_neg hc']
            intro i' hi'
            have hi'' : i' < m' + 1 := by rw [← hm'']; exact hi'
            show _ = t_by (if i' = (yq_ap v' t' k').2 then yq_bt v' (24 - 8 * k') else (yq_ap v' t' k').1 i')
            rw [hm'', p_uc _ _ _ _ _ (by decide)]
            by_cases e' : i' = m'
            · rw [if_pos e', e', p_us]
            · rw [if_neg e', p_uj _ _ _ _ _ e']
              exact j4' i' (by omega)
      · right
        have hk'' : k' = 4 := by omega
        subst hk''
        refine ⟨(J', X'), ?_, J', rfl, j1', j2', j3', j4'⟩
        simp only [show (yq_s 4 < 0) = True from eq_true (by decide), ↓reduceIte]) 4 0 q_fu (24, (I', X')) (by omega) (by unfold q_fu; omega) ⟨I', rfl, fun _ _ _ => rfl, fun _ _ => rfl, h1', h38'⟩
  refine ⟨J', ?_, j1', j2', j3', j4'⟩
  unfold F_X9_append
  rw [h2']
  rfl
theorem s_appM (hB' : p_B X') (v' : Int32) {t' : (Nat → Nat) × Nat} (hn' : t'.2 + yq_ct v' 4 ≤ 240) (h1' : I' 87 6 = Int32.ofNat t'.2) (h88' : ∀ i', i' < t'.2 → I' 88 i' = t_by (t'.1 i')) : ∃ J', F_X12_put 87 v' (I', X') = some ((), (J', X')) ∧ (∀ c', c' ≠ 87 → c' ≠ 88 → J' c' = I' c') ∧ (∀ j', j' ≠ 6 → J' 87 j' = I' 87 j') ∧ J' 87 6 = Int32.ofNat (yq_ap v' t' 4).2 ∧ (∀ i', i' < (yq_ap v' t' 4).2 → J' 88 i' = t_by ((yq_ap v' t' 4).1 i')) := by
  obtain ⟨z', h2', J', rfl, j1', j2', j3', j4'⟩ := p_lp (fun z' => B_X12_put_3 87 v' z'.1 z'.2) (fun k' z' => ∃ J', z' = (yq_s k', (J', X')) ∧ (∀ c', c' ≠ 87 → c' ≠ 88 → J' c' = I' c') ∧ (∀ j', j' ≠ 6 → J' 87 j' = I' 87 j') ∧ J' 87 6 = Int32.ofNat (yq_ap v' t' k').2 ∧ (∀ i', i' < (yq_ap v' t' k').2 → J' 88 i' = t_by ((yq_ap v' t' k').1 i')))
    (fun z' => ∃ J', z' = (J', X') ∧ (∀ c', c' ≠ 87 → c' ≠ 88 → J' c' = I' c') ∧ (∀ j', j' ≠ 6 → J' 87 j' = I' 87 j') ∧ J' 87 6 = Int32.ofNat (yq_ap v' t' 4).2 ∧ (∀ i', i' < (yq_ap v' t' 4).2 → J' 88 i' = t_by ((yq_ap v' t' 4).1 i'))) 4 (by
      rintro k' z' hk' ⟨J', rfl, j1', j2', j3', j4'⟩
      unfold B_X12_put_3 J_X12_put_43_3
      by_cases hlt' : k' < 4
      · left
        obtain ⟨s1', s2', s3', s4'⟩ := yq_sF hlt'
        have hb' := yq_btM v' _ s4'
        rw [← s1'] at hb'
        have hz' := yq_z _ (yq_btL v' (24 - 8 * k'))
        by_cases hc' : yq_bt v' (24 - 8 * k') = 0
        · refine ⟨(yq_s (k' + 1), (J', X')), ?_, hlt', J', rfl, j1', j2', ?_, ?_⟩
          · simp only [s2', hb', hz', hc', s3', ↓reduceIte, show (Int32.ofNat 0 = 0) = True from by decide]
          · rw [yq_ap, if_pos hc']; exact j3'
          · rw [yq_ap, if_pos hc']; exact j4'
        · have hm' := yq_ctM v' (show k' + 1 ≤ 4 by omega)
          rw [yq_ctS, if_neg hc'] at hm'
          have hN' := yq_apN v' t' k'
          have hby' := yq_btS v' _ s4'
          rw [← s1'] at hby'
          generalize hm'' : (yq_ap v' t' k').2 = m' at *
          refine ⟨(yq_s (k' + 1), (q_u2 (q_u2 J' 88 m' (t_by (yq_bt v' (24 - 8 * k')))) 87 6 (Int32.ofNat (m' + 1)), X')), ?_, hlt', _, rfl, fun c' z1' z2' => by rw [p_uc _ _ _ _ _ z1', p_uc _ _ _ _ _ z2']; exact j1' c' z1' z2', fun j' hj' => by rw [p_uj _ _ _ _ _ hj', p_uc _ _ _ _ _ (by decide)]; exact j2' j' hj', ?_, ?_⟩
          · have l1' : q_u2 J' 88 m' (t_by (yq_bt v' (24 - 8 * k'))) 87 6 = Int32.ofNat m' := by rw [p_uc _ _ _ _ _ (by decide)]; exact j3'
            simp (disch := omega) only [↓ce_87 hB', rf_87 hB', ↓ce_88 hB', ↓nn_31, ↓nn_33, ↓nn_89, ↓nn_90, ↓nn_91, ↓nn_92, ↓nn_93, ↓nn_94, ↓nn_95, ↓nn_96, ↓nn_97, ↓nn_98, ↓nn_99, ↓nn_100, ↓nn_101, ↓nn_102, ↓nn_103, ↓nn_104, ↓nn_105, ↓nn_106, ↓nn_107, ↓nn_108, p_bs, p_rq0, p_rq1, p_rz0, p_rz1, p_us, p_un, p_uj, ↓reduceIte, s2', hb', hz', hc', s3', j3', hby']
            simp (disch := omega) only [↓ce_87 hB', rf_87 hB', ↓nn_31, ↓nn_33, ↓nn_89, ↓nn_90, ↓nn_91, ↓nn_92, ↓nn_93, ↓nn_94, ↓nn_95, ↓nn_96, ↓nn_97, ↓nn_98, ↓nn_99, ↓nn_100, ↓nn_101, ↓nn_102, ↓nn_103, ↓nn_104, ↓nn_105, ↓nn_106, ↓nn_107, ↓nn_108, p_bs, p_rq0, p_rq1, p_rz0, p_rz1, p_us, p_un, p_uj, ↓reduceIte, l1', p_ar]
          · rw [p_us, yq_ap, if_neg hc']
            show _ = Int32.ofNat ((yq_ap v' t' k').2 + 1)
            rw [hm'']
          · rw [yq_ap, if_neg hc']
            intro i' hi'
            have hi'' : i' < m' + 1 := by rw [← hm'']; exact hi'
            show _ = t_by (if i' = (yq_ap v' t' k').2 then yq_bt v' (24 - 8 * k') else (yq_ap v' t' k').1 i')
            rw [hm'', p_uc _ _ _ _ _ (by decide)]
            by_cases e' : i' = m'
            · rw [if_pos e', e', p_us]
            · rw [if_neg e', p_uj _ _ _ _ _ e']
              exact j4' i' (by omega)
      · right
        have hk'' : k' = 4 := by omega
        subst hk''
        refine ⟨(J', X'), ?_, J', rfl, j1', j2', j3', j4'⟩
        simp only [show (yq_s 4 < 0) = True from eq_true (by decide), ↓reduceIte]) 4 0 q_fu (24, (I', X')) (by omega) (by unfold q_fu; omega) ⟨I', rfl, fun _ _ _ => rfl, fun _ _ => rfl, h1', h88'⟩
  refine ⟨J', ?_, j1', j2', j3', j4'⟩
  unfold F_X12_put
  rw [h2']
  rfl
end PF'
section PF'
variable {A' : v_A} {X' : p_X} {I' : p_I}
theorem v_tape (h' : v_V A' I' X') {K' : p_I} (n' : ∀ c', ¬ (c' = 37 ∨ c' = 38 ∨ c' = 87 ∨ c' = 88) → K' c' = I' c') (n87' : ∀ j', ¬ (j' = 0 ∨ j' = 6) → K' 87 j' = I' 87 j') (hT'' : v_T K') : v_V A' K' X' := by
  obtain ⟨hB', hS', hT', hH', hN', hP', hG', hC', hL', hLH', hW', hD', hF'⟩ := h'
  exact ⟨hB', fun c' hc' => by rw [n' c' (by omega)]; exact hS' c' hc', hT'', v_Hk hH' (by rw [n' 36 (by omega)]) (fun c' h1' h2' => n' c' (by omega)) (n' _ (by omega)) (n' _ (by omega)) (n' _ (by omega)) (n87' _ (by omega)) (n87' _ (by omega)), v_Nk hN' (n' _ (by omega)) (n' _ (by omega)) (n' _ (by omega)), v_Pk hP' (by rw [n' 57 (by omega)]) (by rw [n' 57 (by omega)]) (n' _ (by omega)) (n' _ (by omega)) (n' _ (by omega)) (n87' _ (by omega)), v_Gk hG' (by rw [n' 57 (by omega)]) (n' _ (by omega)) (n' _ (by omega)) (n' _ (by omega)) (n87' _ (by omega)), v_Ck hC' (by rw [n' 83 (by omega)]) (n' _ (by omega)) (n' _ (by omega)) (n87' _ (by omega)), v_Lk hL' (by rw [n' 36 (by omega)]) (n87' _ (by omega)) (fun c' hc' => n' c' (by omega)) (n' _ (by omega)) (n' _ (by omega)), v_LHk hLH' (by rw [n' 36 (by omega)]) (n87' _ (by omega)), v_Wk hW' (by rw [n' 36 (by omega)]) (n87' _ (by omega)) (fun c' hc' => n' c' (by omega)) (n' _ (by omega)) (n' _ (by omega)), hD', v_Fk hF' (by rw [n' 36 (by omega)]) (n87' _ (by omega))⟩
theorem m_feed (h' : v_V A' I' X') (a' b' c' d' e' : Int32) : ∃ r' I1' J' X1', F_X11_feed 36 a' b' c' d' e' (I', X') = some (r', (I1', X')) ∧ F_X12_feed 87 a' b' c' d' e' (I1', X') = some (r', (J', X1')) ∧ v_V A' J' X1' := by
  obtain ⟨hB', hS', hT', -⟩ := id h'
  obtain ⟨β, n', t1', t2', t3', t4', t5', t6'⟩ := hT'
  have La' := yq_ctL a' 4
  have Lb' := yq_ctL b' 4
  have Lc' := yq_ctL c' 4
  have Ld' := yq_ctL d' 4
  have Le' := yq_ctL e' 4
  have hbC' := fun v' M' => s_bytesC v' M'
  have hbM' := fun v' M' => s_bytesM v' M'
  have hsC' : Int32.ofNat n' + (Int32.ofNat (yq_ct a' 4) + Int32.ofNat (yq_ct b' 4) + Int32.ofNat (yq_ct c' 4) + Int32.ofNat (yq_ct d' 4) + Int32.ofNat (yq_ct e' 4)) = Int32.ofNat (n' + (yq_ct a' 4 + yq_ct b' 4 + yq_ct c' 4 + yq_ct d' 4 + yq_ct e' 4)) := by simp only [Int32.ofNat_add]
  have hsM' : Int32.ofNat n' + Int32.ofNat (yq_ct a' 4) + Int32.ofNat (yq_ct b' 4) + Int32.ofNat (yq_ct c' 4) + Int32.ofNat (yq_ct d' 4) + Int32.ofNat (yq_ct e' 4) = Int32.ofNat (n' + (yq_ct a' 4 + yq_ct b' 4 + yq_ct c' 4 + yq_ct d' 4 + yq_ct e' 4)) := by
    rw [show n' + (yq_ct a' 4 + yq_ct b' 4 + yq_ct c' 4 + yq_ct d' 4 + yq_ct e' 4) = n' + yq_ct a' 4 + yq_ct b' 4 + yq_ct c' 4 + yq_ct d' 4 + yq_ct e' 4 by omega]
    simp only [Int32.ofNat_add]
  have hcmp : (240 < Int32.ofNat (n' + (yq_ct a' 4 + yq_ct b' 4 + yq_ct c' 4 + yq_ct d' 4 + yq_ct e' 4))) = (240 < n' + (yq_ct a' 4 + yq_ct b' 4 + yq_ct c' 4 + yq_ct d' 4 + yq_ct e' 4)) := p_lt 240 _ (by decide) (by omega)
  have h6'' : q_u2 I' 87 0 0 87 6 = Int32.ofNat n' := by rw [p_uj _ _ _ _ _ (by decide)]; exact t4'
  by_cases hbig : 240 < n' + (yq_ct a' 4 + yq_ct b' 4 + yq_ct c' 4 + yq_ct d' 4 + yq_ct e' 4)
  · refine ⟨-1, I', _, X', ?_, ?_, v_thr h'⟩
    · unfold F_X11_feed
      simp (disch := omega) only [↓ce_36 hB', rf_36 hB', ↓ce_37 hB', rf_37 hB', ↓nn_38, ↓nn_39, ↓nn_40, ↓nn_45, ↓nn_50, ↓nn_52, ↓nn_53, ↓nn_54, ↓nn_56, ↓nn_58, ↓nn_64, ↓nn_67, ↓nn_68, ↓nn_84, p_bs, p_rq0, p_rq1, p_rz0, p_rz1, p_us, p_un, p_uj, ↓reduceIte, hbC', t3', hsC', hcmp, hbig]
    · unfold F_X12_feed
      simp (disch := omega) only [↓ce_87 hB', rf_87 hB', ↓nn_31, ↓nn_33, ↓nn_89, ↓nn_90, ↓nn_91, ↓nn_92, ↓nn_93, ↓nn_94, ↓nn_95, ↓nn_96, ↓nn_97, ↓nn_98, ↓nn_99, ↓nn_100, ↓nn_101, ↓nn_102, ↓nn_103, ↓nn_104, ↓nn_105, ↓nn_106, ↓nn_107, ↓nn_108, p_bs, p_rq0, p_rq1, p_rz0, p_rz1, p_us, p_un, p_uj, ↓reduceIte, hbM', h6'', hsM', hcmp, hbig]
  · have N0' : ((β, n') : (Nat → Nat) × Nat).2 = n' := rfl
    obtain ⟨T1', hT1'⟩ : ∃ T', T' = yq_ap a' (β, n') 4 := ⟨_, rfl⟩
    have N1' := yq_apN a' (β, n') 4
    have B1' := yq_apB a' (β, n') t2' 4
    obtain ⟨C1', p11', p12', p13', p14', p15'⟩ := s_appC (I' := I') hB' a' (t' := (β, n')) (by omega) t3' t5'
    rw [← hT1'] at N1' B1' p14' p15'
    obtain ⟨T2', hT2'⟩ : ∃ T', T' = yq_ap b' T1' 4 := ⟨_, rfl⟩
    have N2' := yq_apN b' T1' 4
    have B2' := yq_apB b' T1' B1' 4
    obtain ⟨C2', p21', p22', p23', p24', p25'⟩ := s_appC (I' := C1') hB' b' (t' := T1') (by omega) p14' p15'
    rw [← hT2'] at N2' B2' p24' p25'
    obtain ⟨T3', hT3'⟩ : ∃ T', T' = yq_ap c' T2' 4 := ⟨_, rfl⟩
    have N3' := yq_apN c' T2' 4
    have B3' := yq_apB c' T2' B2' 4
    obtain ⟨C3', p31', p32', p33', p34', p35'⟩ := s_appC (I' := C2') hB' c' (t' := T2') (by omega) p24' p25'
    rw [← hT3'] at N3' B3' p34' p35'
    obtain ⟨T4', hT4'⟩ : ∃ T', T' = yq_ap d' T3' 4 := ⟨_, rfl⟩
    have N4' := yq_apN d' T3' 4
    have B4' := yq_apB d' T3' B3' 4
    obtain ⟨C4', p41', p42', p43', p44', p45'⟩ := s_appC (I' := C3') hB' d' (t' := T3') (by omega) p34' p35'
    rw [← hT4'] at N4' B4' p44' p45'
    obtain ⟨T5', hT5'⟩ : ∃ T', T' = yq_ap e' T4' 4 := ⟨_, rfl⟩
    have N5' := yq_apN e' T4' 4
    have B5' := yq_apB e' T4' B4' 4
    obtain ⟨C5', p51', p52', p53', p54', p55'⟩ := s_appC (I' := C4') hB' e' (t' := T4') (by omega) p44' p45'
    rw [← hT5'] at N5' B5' p54' p55'
    have fC' : ∀ c', c' ≠ 37 → c' ≠ 38 → C5' c' = I' c' := fun c' z1' z2' => by rw [p52' c' z1' z2', p42' c' z1' z2', p32' c' z1' z2', p22' c' z1' z2', p12' c' z1' z2']
    obtain ⟨R0', hR0'⟩ : ∃ R', R' = q_u2 C5' 87 0 0 := ⟨_, rfl⟩
    have r06' : R0' 87 6 = Int32.ofNat n' := by rw [hR0', p_uj _ _ _ _ _ (by decide), fC' 87 (by decide) (by decide)]; exact t4'
    have r088 : ∀ i', i' < n' → R0' 88 i' = t_by (β i') := fun i' hi' => by rw [hR0', p_uc _ _ _ _ _ (by decide), fC' 88 (by decide) (by decide)]; exact t6' i' hi'
    obtain ⟨R1', q11', q12', q13', q14', q15'⟩ := s_appM (I' := R0') hB' a' (t' := (β, n')) (by omega) r06' r088
    rw [← hT1'] at q14' q15'
    obtain ⟨R2', q21', q22', q23', q24', q25'⟩ := s_appM (I' := R1') hB' b' (t' := T1') (by omega) q14' q15'
    rw [← hT2'] at q24' q25'
    obtain ⟨R3', q31', q32', q33', q34', q35'⟩ := s_appM (I' := R2') hB' c' (t' := T2') (by omega) q24' q25'
    rw [← hT3'] at q34' q35'
    obtain ⟨R4', q41', q42', q43', q44', q45'⟩ := s_appM (I' := R3') hB' d' (t' := T3') (by omega) q34' q35'
    rw [← hT4'] at q44' q45'
    obtain ⟨R5', q51', q52', q53', q54', q55'⟩ := s_appM (I' := R4') hB' e' (t' := T4') (by omega) q44' q45'
    rw [← hT5'] at q54' q55'
    have fR' : ∀ c', c' ≠ 87 → c' ≠ 88 → R5' c' = C5' c' := fun c' z1' z2' => by rw [q52' c' z1' z2', q42' c' z1' z2', q32' c' z1' z2', q22' c' z1' z2', q12' c' z1' z2', hR0', p_uc _ _ _ _ _ z1']
    have fR7' : ∀ j', j' ≠ 6 → j' ≠ 0 → R5' 87 j' = C5' 87 j' := fun j' z1' z2' => by rw [q53' j' z1', q43' j' z1', q33' j' z1', q23' j' z1', q13' j' z1', hR0', p_uj _ _ _ _ _ z2']
    refine ⟨Int32.ofNat T5'.2, C5', R5', X', ?_, ?_, v_tape h' (fun c' hc' => by rw [fR' c' (by omega) (by omega)]; exact fC' c' (by omega) (by omega)) (fun j' hj' => by rw [fR7' j' (by omega) (by omega), fC' 87 (by decide) (by decide)]) ⟨T5'.1, T5'.2, by omega, B5', by rw [fR' 37 (by decide) (by decide)]; exact p54', q54', fun i' hi' => by rw [fR' 38 (by decide) (by decide)]; exact p55' i' hi', q55'⟩⟩
    · unfold F_X11_feed
      simp (disch := omega) only [↓ce_36 hB', rf_36 hB', ↓ce_37 hB', rf_37 hB', ↓nn_38, ↓nn_39, ↓nn_40, ↓nn_45, ↓nn_50, ↓nn_52, ↓nn_53, ↓nn_54, ↓nn_56, ↓nn_58, ↓nn_64, ↓nn_67, ↓nn_68, ↓nn_84, p_bs, p_rq0, p_rq1, p_rz0, p_rz1, p_us, p_un, p_uj, ↓reduceIte, hbC', t3', hsC', hcmp, hbig, p11', p21', p31', p41', p51', p54']
    · unfold F_X12_feed
      have h6c : q_u2 C5' 87 0 0 87 6 = Int32.ofNat n' := by rw [← hR0']; exact r06'
      simp (disch := omega) only [↓ce_87 hB', rf_87 hB', ↓nn_31, ↓nn_33, ↓nn_89, ↓nn_90, ↓nn_91, ↓nn_92, ↓nn_93, ↓nn_94, ↓nn_95, ↓nn_96, ↓nn_97, ↓nn_98, ↓nn_99, ↓nn_100, ↓nn_101, ↓nn_102, ↓nn_103, ↓nn_104, ↓nn_105, ↓nn_106, ↓nn_107, ↓nn_108, p_bs, p_rq0, p_rq1, p_rz0, p_rz1, p_us, p_un, p_uj, ↓reduceIte, hbM', h6c, hsM', hcmp, hbig]
      rw [← hR0']
      simp (disch := omega) only [↓ce_87 hB', rf_87 hB', ↓nn_31, ↓nn_33, ↓nn_89, ↓nn_90, ↓nn_91, ↓nn_92, ↓nn_93, ↓nn_94, ↓nn_95, ↓nn_96, ↓nn_97, ↓nn_98, ↓nn_99, ↓nn_100, ↓nn_101, ↓nn_102, ↓nn_103, ↓nn_104, ↓nn_105, ↓nn_106, ↓nn_107, ↓nn_108, p_bs, p_rq0, p_rq1, p_rz0, p_rz1, p_us, p_un, p_uj, ↓reduceIte, q11', q21', q31', q41', q51', q54']
end PF'
