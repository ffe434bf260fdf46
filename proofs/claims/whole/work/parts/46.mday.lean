/-! A DAY, the reference's side -/
theorem p_lgl (a' b' : Int64) : (lg_cmp a' b' < 0) = (a' < b') := by
  unfold lg_cmp
  by_cases h' : b' < a'
  · have h2' : ¬ a' < b' := Int64.lt_asymm h'
    simp only [gt_iff_lt, h2', h', ↓reduceIte]; decide
  · by_cases h3' : a' = b'
    · subst h3'
      simp [Int64.lt_irrefl]
    · have h4' : a' < b' := Int64.lt_of_le_of_ne (Int64.not_lt.mp h') h3'
      simp only [gt_iff_lt, h', h3', h4', ↓reduceIte]; decide
theorem p_lgg (a' b' : Int64) : (0 < lg_cmp a' b') = (b' < a') := by
  unfold lg_cmp
  by_cases h' : b' < a'
  · simp only [gt_iff_lt, h', ↓reduceIte]; decide
  · by_cases h3' : a' = b'
    · subst h3'
      simp [Int64.lt_irrefl]
    · simp only [gt_iff_lt, h', h3', ↓reduceIte]; decide
theorem s_isIn (a' b' c' : Int64) (M' : q_Mem) : F_X12_isIn a' b' c' M' = some (t_b (decide (b' ≤ a') && decide (a' ≤ c'))) := by
  unfold F_X12_isIn
  simp only [p_lgl, p_lgg]
  by_cases h1' : a' < b'
  · have : ¬ b' ≤ a' := Int64.not_le.mpr h1'
    simp [h1', this, t_b, p_rq0]
  · have h1'' : b' ≤ a' := Int64.not_lt.mp h1'
    by_cases h2' : c' < a'
    · have : ¬ a' ≤ c' := Int64.not_le.mpr h2'
      simp [h1', this, h2', t_b, p_rq0]
    · have h2'' : a' ≤ c' := Int64.not_lt.mp h2'
      simp [h1', h1'', h2', h2'', t_b, p_rq1]
theorem s_isIn3 (a' b' c' : Int32) (M' : q_Mem) : F_X12_isIn a'.toInt64 b'.toInt64 c'.toInt64 M' = some (t_b (decide (b' ≤ a') && decide (a' ≤ c'))) := by
  rw [s_isIn]
  simp only [Int32.toInt64_le]
abbrev t_RK (c' : Nat) : Prop := c' = 100 ∨ c' = 101
/-- the rows of the reference's two long rows -/
theorem p_mr {β : Type} {c' : Nat} (hc' : t_RK c') {X' : p_X} (hB' : p_B X') :
    (∀ (I' : p_I) (i' : Nat) (f' : Int32 → Option β), i' < 217 → q_lI (I', X') 0 c' (Int32.ofNat i') f' = f' (I' c' i')) ∧
    (∀ (I' : p_I) (i' : Nat) (v' : Int32) (f' : q_Mem → Option β), i' < 217 → q_tI (I', X') c' (Int32.ofNat i') v' f' = f' (q_u2 I' c' i' v', X')) ∧
    (∀ (I' : p_I) (f' : Int32 → Option β), q_lI (I', X') 0 c' 32 f' = f' (I' c' 32)) ∧ (∀ (I' : p_I) (f' : Int32 → Option β), q_lI (I', X') 0 c' 33 f' = f' (I' c' 33)) ∧ (∀ (I' : p_I) (f' : Int32 → Option β), q_lI (I', X') 0 c' 34 f' = f' (I' c' 34)) ∧ (∀ (I' : p_I) (f' : Int32 → Option β), q_lI (I', X') 0 c' 35 f' = f' (I' c' 35)) ∧ (∀ (I' : p_I) (f' : Int32 → Option β), q_lI (I', X') 0 c' 36 f' = f' (I' c' 36)) ∧
    (∀ (I' : p_I) (v' : Int32) (f' : q_Mem → Option β), q_tI (I', X') c' 32 v' f' = f' (q_u2 I' c' 32 v', X')) ∧ (∀ (I' : p_I) (v' : Int32) (f' : q_Mem → Option β), q_tI (I', X') c' 33 v' f' = f' (q_u2 I' c' 33 v', X')) ∧ (∀ (I' : p_I) (v' : Int32) (f' : q_Mem → Option β), q_tI (I', X') c' 34 v' f' = f' (q_u2 I' c' 34 v', X')) ∧ (∀ (I' : p_I) (v' : Int32) (f' : q_Mem → Option β), q_tI (I', X') c' 35 v' f' = f' (q_u2 I' c' 35 v', X')) ∧ (∀ (I' : p_I) (v' : Int32) (f' : q_Mem → Option β), q_tI (I', X') c' 36 v' f' = f' (q_u2 I' c' 36 v', X')) := by
  have h' : X'.2.2[c']? = some (.inr (0, 217)) ∧ q_NS ≤ c' := by
    rcases hc' with rfl | rfl
    · exact ⟨sh_100 hB', by decide⟩
    · exact ⟨sh_101 hB', by decide⟩
  obtain ⟨h2', h5'⟩ := h'
  exact ⟨p_lI h2' (by decide), p_tI h2' (by decide) h5', fun I' f' => p_lI h2' (by decide) I' 32 f' (by decide), fun I' f' => p_lI h2' (by decide) I' 33 f' (by decide), fun I' f' => p_lI h2' (by decide) I' 34 f' (by decide), fun I' f' => p_lI h2' (by decide) I' 35 f' (by decide), fun I' f' => p_lI h2' (by decide) I' 36 f' (by decide), fun I' v' f' => p_tI h2' (by decide) h5' I' 32 v' f' (by decide), fun I' v' f' => p_tI h2' (by decide) h5' I' 33 v' f' (by decide), fun I' v' f' => p_tI h2' (by decide) h5' I' 34 v' f' (by decide), fun I' v' f' => p_tI h2' (by decide) h5' I' 35 v' f' (by decide), fun I' v' f' => p_tI h2' (by decide) h5' I' 36 v' f' (by decide)⟩
/-- the reference's house holds H -/
def t_HM (H' : t_H) (I' : p_I) : Prop := (∀ j', j' < 3 → I' 92 j' = t_hr H' j') ∧ (∀ j', j' < 3 * t_nd H' → I' 94 j' = t_hd H' j') ∧ (∀ j', j' < 4 * t_ng H' → I' 96 j' = t_hg H' j') ∧ I' 87 26 = Int32.ofNat (t_nd H') ∧ I' 87 27 = Int32.ofNat (t_ng H')
theorem t_HMk {H' : t_H} {I' J' : p_I} (hH' : t_HM H' I') (h1' : J' 92 = I' 92) (h2' : J' 94 = I' 94) (h3' : J' 96 = I' 96) (h4' : J' 87 26 = I' 87 26) (h5' : J' 87 27 = I' 87 27) : t_HM H' J' := by
  unfold t_HM
  rw [h1', h2', h3', h4', h5']
  exact hH'
/-- guests and the day -/
def t_RG (s' w' : Nat → Int32) : Prop := (∀ g', g' < 6 → w' (4 * g') = s' (13 + g') ∧ w' (4 * g' + 1) = s' (19 + g') ∧ w' (4 * g' + 2) = s' (25 + g') ∧ w' (4 * g' + 3) = t_b (t_bit (s' 4) g')) ∧ w' 32 = s' 1 ∧ w' 34 = s' 3 + 1 ∧ w' 35 = s' 0
def t_RS (s' w' : Nat → Int32) : Prop := t_RG s' w' ∧ (∀ j', j' < 4 → w' (24 + 2 * j') = s' (5 + j') ∧ w' (24 + 2 * j' + 1) = s' (9 + j')) ∧ w' 33 = s' 2
section PM'
variable {X' : p_X} {I' : p_I} {H' : t_H} {c' : Nat} {s' : Nat → Int32}
theorem s_comes (hB' : p_B X') (hM' : t_HM H' I') (hW' : t_HW H') (g' : Nat) (hg' : g' < t_ng H') : F_X12_comes 87 (Int32.ofNat g') (I', X') = some (t_hg H' (g' * 4)) := by
  have hng' := hW'.2.2.2.1
  unfold F_X12_comes
  simp (disch := omega) only [↓ce_87 hB', rf_87 hB', ↓ce_96 hB', ↓nn_31, ↓nn_33, ↓nn_89, ↓nn_90, ↓nn_91, ↓nn_92, ↓nn_93, ↓nn_94, ↓nn_95, ↓nn_96, ↓nn_97, ↓nn_98, ↓nn_99, ↓nn_100, ↓nn_101, ↓nn_102, ↓nn_103, ↓nn_104, ↓nn_105, ↓nn_106, ↓nn_107, ↓nn_108, p_bs, p_rq0, p_rq1, p_rz0, p_rz1, p_us, p_un, p_uj, ↓reduceIte, p_ar]
  rw [hM'.2.2.1 _ (by omega), Nat.mul_comm]
theorem s_pays (hB' : p_B X') (hM' : t_HM H' I') (hW' : t_HW H') (g' : Nat) (hg' : g' < t_ng H') : F_X12_pays 87 (Int32.ofNat g') (I', X') = some (t_hg H' (g' * 4 + 3)) := by
  have hng' := hW'.2.2.2.1
  unfold F_X12_pays
  simp (disch := omega) only [↓ce_87 hB', rf_87 hB', ↓ce_96 hB', ↓nn_31, ↓nn_33, ↓nn_89, ↓nn_90, ↓nn_91, ↓nn_92, ↓nn_93, ↓nn_94, ↓nn_95, ↓nn_96, ↓nn_97, ↓nn_98, ↓nn_99, ↓nn_100, ↓nn_101, ↓nn_102, ↓nn_103, ↓nn_104, ↓nn_105, ↓nn_106, ↓nn_107, ↓nn_108, p_bs, p_rq0, p_rq1, p_rz0, p_rz1, p_us, p_un, p_uj, ↓reduceIte, p_ar]
  rw [hM'.2.2.1 _ (by omega), Nat.mul_comm]
theorem s_kindOf (hB' : p_B X') (hM' : t_HM H' I') (hW' : t_HW H') (d' : Nat) (hd' : d' < t_nd H') : F_X12_kindOf 87 (Int32.ofNat d') (I', X') = some (t_hd H' (d' * 3 + 2)) := by
  have hnd' := hW'.2.1
  unfold F_X12_kindOf
  simp (disch := omega) only [↓ce_87 hB', rf_87 hB', ↓ce_94 hB', ↓nn_31, ↓nn_33, ↓nn_89, ↓nn_90, ↓nn_91, ↓nn_92, ↓nn_93, ↓nn_94, ↓nn_95, ↓nn_96, ↓nn_97, ↓nn_98, ↓nn_99, ↓nn_100, ↓nn_101, ↓nn_102, ↓nn_103, ↓nn_104, ↓nn_105, ↓nn_106, ↓nn_107, ↓nn_108, p_bs, p_rq0, p_rq1, p_rz0, p_rz1, p_us, p_un, p_uj, ↓reduceIte, p_ar]
  rw [hM'.2.1 _ (by omega), Nat.mul_comm]
/-- the two ways to say that one is there -/
theorem t_thI (D' a' n' : Nat) (hD' : D' ≤ 2000) (ha' : a' ≤ 20) (hn' : n' ≤ 120) : (decide (Int32.ofNat a' ≤ Int32.ofNat D') && decide (Int32.ofNat D' ≤ Int32.ofNat a' + Int32.ofNat n' - 1)) = (!decide (Int32.ofNat D' - Int32.ofNat a' < 0) && decide (Int32.ofNat D' - Int32.ofNat a' < Int32.ofNat n')) := by
  have h1' := p_toI D' (by omega)
  have h2' := p_toI a' (by omega)
  have h3' := p_toI n' (by omega)
  have h0' : (0 : Int32).toInt = 0 := rfl
  have h01' : (1 : Int32).toInt = 1 := rfl
  have h4' : (Int32.ofNat D' - Int32.ofNat a').toInt = (D' : Int) - a' := by rw [p_tsub _ _ (by omega) (by omega), h1', h2']
  have h5' : (Int32.ofNat a' + Int32.ofNat n').toInt = (a' : Int) + n' := by rw [p_tadd _ _ (by omega) (by omega), h2', h3']
  have h6' : (Int32.ofNat a' + Int32.ofNat n' - 1).toInt = (a' : Int) + n' - 1 := by rw [p_tsub _ _ (by omega) (by omega), h5', h01']
  rw [Bool.eq_iff_iff]
  simp only [Bool.and_eq_true, decide_eq_true_eq, Bool.not_eq_true', decide_eq_false_iff_not, Int32.le_iff_toInt_le, Int32.lt_iff_toInt_lt, h4', h6', h1', h2', h3', h0']
  omega
theorem s_misThere (hB' : p_B X') (hM' : t_HM H' I') (hW' : t_HW H') (hS' : t_WF H' s') (hc' : t_RK c') (hR' : t_RG s' (I' c')) (g' : Nat) (hg' : g' < t_ng H') : F_X12_isThere 87 c' (Int32.ofNat g') (I', X') = some (t_b (t_th H' s' g')) := by
  obtain ⟨⟨D', hD', hD''⟩, -, -, -, -, hst', -⟩ := hS'
  have hng' := hW'.2.2.2.1
  obtain ⟨n', hn', hn''⟩ := hst' g' (by omega)
  obtain ⟨a', ha', ha''⟩ := hW'.2.2.2.2.2.2.2.1 g' hg'
  obtain ⟨r0', r1', r2', r3'⟩ := hR'.1 g' (by omega)
  have hco' := s_comes hB' hM' hW' g' hg'
  unfold F_X12_isThere
  simp (disch := omega) only [↓ce_87 hB', rf_87 hB', ↓nn_31, ↓nn_33, ↓nn_89, ↓nn_90, ↓nn_91, ↓nn_92, ↓nn_93, ↓nn_94, ↓nn_95, ↓nn_96, ↓nn_97, ↓nn_98, ↓nn_99, ↓nn_100, ↓nn_101, ↓nn_102, ↓nn_103, ↓nn_104, ↓nn_105, ↓nn_106, ↓nn_107, ↓nn_108, p_bs, p_rq0, p_rq1, p_rz0, p_rz1, p_us, p_un, p_uj, ↓reduceIte, p_mr hc' hB', p_ar, hco', r3', r0', hR'.2.2.2, Nat.add_zero, s_isIn3, t_b0]
  unfold t_th
  rw [hD', hn', ha', ← t_thI D' a' n' hD'' ha'' hn'']
  cases t_bit (s' 4) g' <;> cases decide (Int32.ofNat a' ≤ Int32.ofNat D') && decide (Int32.ofNat D' ≤ Int32.ofNat a' + Int32.ofNat n' - 1) <;> simp [t_b, p_rq0, p_rq1]
theorem s_thereBits (hB' : p_B X') (hM' : t_HM H' I') (hW' : t_HW H') (hS' : t_WF H' s') (hc' : t_RK c') (hR' : t_RG s' (I' c')) : F_X12_thereBits 87 c' (I', X') = some (t_B (t_tp H' s')) := by
  have hng' : t_ng H' ≤ 6 := hW'.2.2.2.1
  unfold F_X12_thereBits
  have hs' : ∀ i', i' < t_ng H' → B_X12_thereBits_4 87 c' (t_B (fun g' => decide (g' < i') && t_th H' s' g')) (Int32.ofNat i') (I', X') = some (.inl (t_B (fun g' => decide (g' < i' + 1) && t_th H' s' g'), Int32.ofNat (i' + 1))) := by
    intro i' hi'
    have hT' := s_misThere hB' hM' hW' hS' hc' hR' i' hi'
    unfold B_X12_thereBits_4 J_X12_thereBits_29_4
    simp (disch := omega) only [↓ce_87 hB', rf_87 hB', ↓nn_31, ↓nn_33, ↓nn_89, ↓nn_90, ↓nn_91, ↓nn_92, ↓nn_93, ↓nn_94, ↓nn_95, ↓nn_96, ↓nn_97, ↓nn_98, ↓nn_99, ↓nn_100, ↓nn_101, ↓nn_102, ↓nn_103, ↓nn_104, ↓nn_105, ↓nn_106, ↓nn_107, ↓nn_108, p_bs, p_rq0, p_rq1, p_rz0, p_rz1, p_us, p_un, p_uj, ↓reduceIte, hM'.2.2.2.2, p_lt, hi', hT', t_b0, p_ar]
    cases ht' : t_th H' s' i'
    · simp only [↓reduceIte]
      have e0' : t_B (fun g' => decide (g' < i') && t_th H' s' g') ||| 0 = t_B (fun g' => decide (g' < i' + 1) && t_th H' s' g') := by
        rw [show ∀ x' : Int32, x' ||| 0 = x' from fun x' => by simp]
        refine t_BC (fun g' _ => ?_)
        by_cases e' : g' = i'
        · subst e'; simp [ht']
        · have : (g' < i' + 1) = (g' < i') := by rw [eq_iff_iff]; omega
          simp [this]
      rw [e0']
    · simp only [Bool.true_eq_false, ↓reduceIte]
      have e0' : t_B (fun g' => decide (g' < i') && t_th H' s' g') ||| ((1 : Int32) <<< (Int32.ofNat i' &&& 31)) = t_B (fun g' => decide (g' < i' + 1) && t_th H' s' g') := by
        rw [t_BO _ _ (by omega)]
        refine t_BC (fun g' _ => ?_)
        by_cases e' : g' = i'
        · subst e'; simp [ht']
        · have : (g' < i' + 1) = (g' < i') := by rw [eq_iff_iff]; omega
          simp [this, e']
      rw [e0']
  have he' : B_X12_thereBits_4 87 c' (t_B (fun g' => decide (g' < t_ng H') && t_th H' s' g')) (Int32.ofNat (t_ng H')) (I', X') = some (.inr (t_B (t_tp H' s'))) := by
    unfold B_X12_thereBits_4
    simp (disch := omega) only [↓ce_87 hB', rf_87 hB', ↓nn_31, ↓nn_33, ↓nn_89, ↓nn_90, ↓nn_91, ↓nn_92, ↓nn_93, ↓nn_94, ↓nn_95, ↓nn_96, ↓nn_97, ↓nn_98, ↓nn_99, ↓nn_100, ↓nn_101, ↓nn_102, ↓nn_103, ↓nn_104, ↓nn_105, ↓nn_106, ↓nn_107, ↓nn_108, p_bs, p_rq0, p_rq1, p_rz0, p_rz1, p_us, p_un, p_uj, ↓reduceIte, hM'.2.2.2.2, p_lt, Nat.lt_irrefl]
    rfl
  rw [p_for (fun z' => B_X12_thereBits_4 87 c' z'.1 z'.2 (I', X')) (t_ng H') (fun i' => (t_B (fun g' => decide (g' < i') && t_th H' s' g'), Int32.ofNat i')) (t_B (t_tp H' s')) (by unfold q_fu; omega) hs' he' _ (by rw [t_BZ (fun g' _ => by simp)]; rfl)]
  rfl
theorem s_cooks (hB' : p_B X') (hM' : t_HM H' I') (hW' : t_HW H') (hS' : t_WF H' s') (hc' : t_RK c') (hR' : t_RG s' (I' c')) : F_X12_cooks 87 c' (I', X') = some (t_ck H' s') := by
  have h5' : t_nd H' ≤ 5 := hW'.2.1
  have h0' := hW'.1
  obtain ⟨-, -, hch', -⟩ := hS'
  unfold F_X12_cooks q_rmi t_ck
  simp (disch := omega) only [↓ce_87 hB', rf_87 hB', ↓nn_31, ↓nn_33, ↓nn_89, ↓nn_90, ↓nn_91, ↓nn_92, ↓nn_93, ↓nn_94, ↓nn_95, ↓nn_96, ↓nn_97, ↓nn_98, ↓nn_99, ↓nn_100, ↓nn_101, ↓nn_102, ↓nn_103, ↓nn_104, ↓nn_105, ↓nn_106, ↓nn_107, ↓nn_108, p_bs, p_rq0, p_rq1, p_rz0, p_rz1, p_us, p_un, p_uj, ↓reduceIte, p_mr hc' hB', hR'.2.2.1, hR'.2.2.2, hM'.2.2.2.1, p_cm, show (t_nd H' = 0) = False from eq_false (by omega)]
  rcases hch' with h' | ⟨d', h', hd'⟩
  · rw [h']; rfl
  · rw [h']
    have e1' : Int32.ofNat d' + 1 = Int32.ofNat (d' + 1) := (Int32.ofNat_add d' 1).symm
    have e2' : Int32.ofNat d' + 1 - 1 = Int32.ofNat d' := Int32.add_sub_cancel _ _
    have e3' : (0 : Int32) < Int32.ofNat d' + 1 := by rw [e1', show (0 : Int32) = Int32.ofNat 0 from rfl, p_lt 0 (d' + 1) (by omega) (by omega)]; omega
    simp only [p_ofN1 d' (by omega), e3', e2', ↓reduceIte]
end PM'
