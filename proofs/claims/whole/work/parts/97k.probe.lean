/-! probe -/
/-- how many more of the kinds left have that joy -/
def t_ln (may' : Int32) (q' : Nat → Bool) : Nat → Int32
  | 0 => 0
  | n' + 1 => if t_bit may' n' = true then t_ln may' q' n' + (if q' n' = true then 1 else -1) else t_ln may' q' n'
/-- the first of the least -/
def t_mi (f' : Nat → Int32) : Nat → Int32 × Int32
  | 0 => (-1, 5)
  | n' + 1 => if f' n' < (t_mi f' n').2 then (Int32.ofNat n', f' n') else t_mi f' n'
theorem t_ln5 (may' : Int32) (q' : Nat → Bool) : q_ab (t_ln may' q' 4) < 5 := by
  simp only [t_ln]
  generalize t_bit may' 0 = a0'
  generalize t_bit may' 1 = a1'
  generalize t_bit may' 2 = a2'
  generalize t_bit may' 3 = a3'
  generalize q' 0 = b0'
  generalize q' 1 = b1'
  generalize q' 2 = b2'
  generalize q' 3 = b3'
  revert a0' a1' a2' a3' b0' b1' b2' b3'
  decide +kernel
theorem t_miN {f' : Nat → Int32} (h0' : f' 0 < 5) {n' : Nat} (hn' : n' < 1000) : ∃ x', x' ≤ n' ∧ (t_mi f' (n' + 1)).1 = Int32.ofNat x' := by
  induction n' with
  | zero => exact ⟨0, Nat.le_refl _, by simp only [t_mi, h0', ↓reduceIte]⟩
  | succ n' ih' =>
    obtain ⟨x', h1', h2'⟩ := ih' (by omega)
    rw [t_mi]
    split
    · exact ⟨n' + 1, Nat.le_refl _, rfl⟩
    · exact ⟨x', by omega, h2'⟩
theorem t_bitD (x' : Int32) (g' : Nat) : (((x' >>> (Int32.ofNat g' &&& 31)) &&& 1) = 1) = (t_bit x' g' = true) := by
  have h1' : ∀ y' : Int32, y' &&& 1 = 0 ∨ y' &&& 1 = 1 := fun y' => by
    have hb' : (y' &&& 1).toBitVec = y'.toBitVec &&& 1#32 := rfl
    have h2' : y'.toBitVec &&& 1#32 = 0#32 ∨ y'.toBitVec &&& 1#32 = 1#32 := by
      have h3' : (y'.toBitVec &&& 1#32).toNat < 2 := by
        rw [BitVec.toNat_and]
        exact Nat.lt_of_le_of_lt Nat.and_le_right (by decide)
      have h4' : (y'.toBitVec &&& 1#32).toNat = 0 ∨ (y'.toBitVec &&& 1#32).toNat = 1 := by omega
      rcases h4' with h' | h'
      · left; apply BitVec.eq_of_toNat_eq; rw [h']; rfl
      · right; apply BitVec.eq_of_toNat_eq; rw [h']; rfl
    rcases h2' with h' | h'
    · left; apply Int32.toBitVec_inj.mp; rw [hb', h']; rfl
    · right; apply Int32.toBitVec_inj.mp; rw [hb', h']; rfl
  unfold t_bit
  rcases h1' (x' >>> (Int32.ofNat g' &&& 31)) with h' | h'
  · rw [h']; simp
  · rw [h']; simp
theorem s_hasX (x' : Int32) (g' : Nat) (M' : q_Mem) : F_X12_has x' (Int32.ofNat g') M' = some (t_b (t_bit x' g')) := by
  unfold F_X12_has
  simp only [t_bitD]
  cases t_bit x' g' <;> rfl
section PL'
variable {X' : p_X} {I' : p_I} {H' : t_H} {L' : t_L}
theorem s_leanC (hB' : p_B X') (hH' : t_HI H' I') (hW' : t_HW H') (hL' : t_LC L' X' I') {g' d' w' : Nat} (hg' : g' < t_ng H') (hd' : d' < t_nd H') (hw' : w' ≤ 20) (may' y' : Int32) : ∃ J', F_X7_lean 83 (Int32.ofNat g') may' (Int32.ofNat d') (Int32.ofNat w') y' (I', X') = some (t_ln may' (fun q' => t_hj H' L' g' (Int32.ofNat q') d' w' y') 4, (J', X')) ∧ (∀ c', c' ≠ 65 → c' ≠ p_sc X' → J' c' = I' c') := by
  have hsc' := p_scN hL'
  obtain ⟨z', h1', J', rfl, j1'⟩ := p_lp (fun z' => B_X7_lean_6 83 (Int32.ofNat g') may' (Int32.ofNat d') (Int32.ofNat w') y' z'.1 z'.2.1 z'.2.2) (fun i' z' => ∃ J', z' = (t_ln may' (fun q' => t_hj H' L' g' (Int32.ofNat q') d' w' y') i', Int32.ofNat i', (J', X')) ∧ (∀ c', c' ≠ 65 → c' ≠ p_sc X' → J' c' = I' c'))
    (fun z' => ∃ J', z' = (t_ln may' (fun q' => t_hj H' L' g' (Int32.ofNat q') d' w' y') 4, (J', X')) ∧ (∀ c', c' ≠ 65 → c' ≠ p_sc X' → J' c' = I' c')) 4 (by
      rintro i' z' hi' ⟨J', rfl, j1'⟩
      have hl8' : (Int32.ofNat i' < 4) = (i' < 4) := p_lt i' 4 (by omega) (by decide)
      unfold B_X7_lean_6 J_X7_lean_43_6 J_X7_lean_46_6
      by_cases hlt' : i' < 4
      · left
        cases hm' : t_bit may' i'
        · simp (disch := omega) only [↓ce_83 hB', rf_83 hB', ↓nn_40, ↓nn_64, ↓nn_85, p_bs, p_rq0, p_rq1, p_rz0, p_rz1, p_us, p_un, p_uj, ↓reduceIte, hl8', hlt', t_bitE, hm', p_ar]
          exact ⟨_, rfl, True.intro, J', by rw [t_ln]; simp only [hm', Bool.false_eq_true, ↓reduceIte], j1'⟩
        · obtain ⟨K', k1', k2'⟩ := s_hasJoyC (I' := J') (L' := L') hB' (t_HIk hH' (fun c' h1' h2' => j1' c' (by omega) (by omega))) hW' (t_LCk hL' (fun c' h1' h2' => j1' c' (by omega) h2')) hg' hd' hw' (Int32.ofNat i') y'
          have kf' : ∀ c', c' ≠ 65 → c' ≠ p_sc X' → K' c' = I' c' := fun c' z1' z2' => by rw [k2' c' z1' z2']; exact j1' c' z1' z2'
          cases hb' : t_hj H' L' g' (Int32.ofNat i') d' w' y'
          · simp (disch := omega) only [↓ce_83 hB', rf_83 hB', ↓nn_40, ↓nn_64, ↓nn_85, p_bs, p_rq0, p_rq1, p_rz0, p_rz1, p_us, p_un, p_uj, ↓reduceIte, hl8', hlt', t_bitE, hm', k1', hb', t_b0, Bool.true_eq_false, p_ar]
            exact ⟨_, rfl, True.intro, K', by rw [t_ln]; simp only [hm', hb', Bool.false_eq_true, ↓reduceIte], kf'⟩
          · simp (disch := omega) only [↓ce_83 hB', rf_83 hB', ↓nn_40, ↓nn_64, ↓nn_85, p_bs, p_rq0, p_rq1, p_rz0, p_rz1, p_us, p_un, p_uj, ↓reduceIte, hl8', hlt', t_bitE, hm', k1', hb', t_b0, Bool.true_eq_false, p_ar]
            exact ⟨_, rfl, True.intro, K', by rw [t_ln]; simp only [hm', hb', ↓reduceIte], kf'⟩
      · right
        have hi'' : i' = 4 := by omega
        subst hi''
        simp (disch := omega) only [p_bs, p_rq0, p_rq1, p_rz0, p_rz1, p_us, p_un, p_uj, ↓reduceIte, hl8', Nat.lt_irrefl]
        exact ⟨_, rfl, J', rfl, j1'⟩) 4 0 q_fu (0, 0, (I', X')) (by omega) (by unfold q_fu; omega) ⟨I', rfl, fun _ _ _ => rfl⟩
  refine ⟨J', ?_, j1'⟩
  unfold F_X7_lean
  rw [h1']
  rfl
theorem s_leanM (hB' : p_B X') (hS0' : p_S I') (hM' : t_HM H' I') (hW' : t_HW H') (hL' : t_LM L' X' I') {g' d' w' : Nat} (hg' : g' < t_ng H') (hd' : d' < t_nd H') (hw' : w' ≤ 20) (may' y' l5' l6' : Int32) : ∃ J' u', q_lp (fun z' => B_X12_probe_79 87 (Int32.ofNat g') (Int32.ofNat w') y' may' l5' l6' (Int32.ofNat d') z'.1 z'.2.1 z'.2.2) q_fu ((0 : Int32), (0 : Int32), (I', X')) = some (t_ln may' (fun q' => t_hj H' L' g' (Int32.ofNat q') d' w' y') 4, (J', p_T X' u')) ∧ (∀ c', c' ≠ 87 → c' ≠ 91 → J' c' = I' c') ∧ (∀ j', ¬ t_m87 j' → J' 87 j' = I' 87 j') := by
  obtain ⟨z', h1', J', u', rfl, j1', j2'⟩ := p_lp (fun z' => B_X12_probe_79 87 (Int32.ofNat g') (Int32.ofNat w') y' may' l5' l6' (Int32.ofNat d') z'.1 z'.2.1 z'.2.2) (fun i' z' => ∃ J' u', z' = (t_ln may' (fun q' => t_hj H' L' g' (Int32.ofNat q') d' w' y') i', Int32.ofNat i', (J', p_T X' u')) ∧ (∀ c', c' ≠ 87 → c' ≠ 91 → J' c' = I' c') ∧ (∀ j', ¬ t_m87 j' → J' 87 j' = I' 87 j'))
    (fun z' => ∃ J' u', z' = (t_ln may' (fun q' => t_hj H' L' g' (Int32.ofNat q') d' w' y') 4, (J', p_T X' u')) ∧ (∀ c', c' ≠ 87 → c' ≠ 91 → J' c' = I' c') ∧ (∀ j', ¬ t_m87 j' → J' 87 j' = I' 87 j')) 4 (by
      rintro i' z' hi' ⟨J', u', rfl, j1', j2'⟩
      have hl8' : (Int32.ofNat i' < 4) = (i' < 4) := p_lt i' 4 (by omega) (by decide)
      have hB0' := hB'
      have hB' := p_BT hB0' u'
      have hx' : ∀ M' : q_Mem, F_X12_has may' (Int32.ofNat i') M' = some (t_b (t_bit may' i')) := fun M' => s_hasX may' i' M'
      unfold B_X12_probe_79 J_X12_probe_116_79 J_X12_probe_119_79
      by_cases hlt' : i' < 4
      · left
        cases hm' : t_bit may' i'
        · simp (disch := omega) only [↓ce_87 hB', rf_87 hB', ↓nn_31, ↓nn_33, ↓nn_89, ↓nn_90, ↓nn_91, ↓nn_92, ↓nn_93, ↓nn_94, ↓nn_95, ↓nn_96, ↓nn_97, ↓nn_98, ↓nn_99, ↓nn_100, ↓nn_101, ↓nn_102, ↓nn_103, ↓nn_104, ↓nn_105, ↓nn_106, ↓nn_107, ↓nn_108, p_bs, p_rq0, p_rq1, p_rz0, p_rz1, p_us, p_un, p_uj, ↓reduceIte, hl8', hlt', hx', hm', t_b0, p_ar]
          exact ⟨_, rfl, True.intro, J', u', by rw [t_ln]; simp only [hm', Bool.false_eq_true, ↓reduceIte], j1', j2'⟩
        · obtain ⟨K', u'', k1', k2', k3'⟩ := s_hasJoyM (I' := J') (L' := L') hB' (fun c' hc' => by rw [j1' c' (by omega) (by omega)]; exact hS0' c' hc') (t_HMk hM' (j1' 92 (by decide) (by decide)) (j1' 94 (by decide) (by decide)) (j1' 96 (by decide) (by decide)) (j2' 26 (by omega)) (j2' 27 (by omega))) hW' (t_LMk (t_LMT hL' u') (j2' 34 (by omega)) (j1' 89 (by decide) (by decide)) (j1' 90 (by decide) (by decide))) hg' hd' hw' (Int32.ofNat i') y'
          rw [p_TT] at k1'
          have kf' : ∀ c', c' ≠ 87 → c' ≠ 91 → K' c' = I' c' := fun c' z1' z2' => by rw [k2' c' z1' z2']; exact j1' c' z1' z2'
          have kg' : ∀ j', ¬ t_m87 j' → K' 87 j' = I' 87 j' := fun j' hj' => by rw [k3' j' hj']; exact j2' j' hj'
          cases hb' : t_hj H' L' g' (Int32.ofNat i') d' w' y'
          · simp (disch := omega) only [↓ce_87 hB', rf_87 hB', ↓nn_31, ↓nn_33, ↓nn_89, ↓nn_90, ↓nn_91, ↓nn_92, ↓nn_93, ↓nn_94, ↓nn_95, ↓nn_96, ↓nn_97, ↓nn_98, ↓nn_99, ↓nn_100, ↓nn_101, ↓nn_102, ↓nn_103, ↓nn_104, ↓nn_105, ↓nn_106, ↓nn_107, ↓nn_108, p_bs, p_rq0, p_rq1, p_rz0, p_rz1, p_us, p_un, p_uj, ↓reduceIte, hl8', hlt', hx', hm', k1', hb', t_b0, Bool.true_eq_false, p_ar]
            exact ⟨_, rfl, True.intro, K', u'', by rw [t_ln]; simp only [hm', hb', Bool.false_eq_true, ↓reduceIte], kf', kg'⟩
          · simp (disch := omega) only [↓ce_87 hB', rf_87 hB', ↓nn_31, ↓nn_33, ↓nn_89, ↓nn_90, ↓nn_91, ↓nn_92, ↓nn_93, ↓nn_94, ↓nn_95, ↓nn_96, ↓nn_97, ↓nn_98, ↓nn_99, ↓nn_100, ↓nn_101, ↓nn_102, ↓nn_103, ↓nn_104, ↓nn_105, ↓nn_106, ↓nn_107, ↓nn_108, p_bs, p_rq0, p_rq1, p_rz0, p_rz1, p_us, p_un, p_uj, ↓reduceIte, hl8', hlt', hx', hm', k1', hb', t_b0, Bool.true_eq_false, p_ar]
            exact ⟨_, rfl, True.intro, K', u'', by rw [t_ln]; simp only [hm', hb', ↓reduceIte], kf', kg'⟩
      · right
        have hi'' : i' = 4 := by omega
        subst hi''
        simp (disch := omega) only [p_bs, p_rq0, p_rq1, p_rz0, p_rz1, p_us, p_un, p_uj, ↓reduceIte, hl8', Nat.lt_irrefl]
        exact ⟨_, rfl, J', u', rfl, j1', j2'⟩) 4 0 q_fu (0, 0, (I', X')) (by omega) (by unfold q_fu; omega) ⟨I', X'.2.1 87 5, by rw [p_Ts]; rfl, fun _ _ _ => rfl, fun _ _ => rfl⟩
  exact ⟨J', u', h1', j1', j2'⟩
theorem s_dishToTry (hB' : p_B X') (hH' : t_HI H' I') (hW' : t_HW H') (hL' : t_LC L' X' I') {k' : Nat} (hk' : k' ≤ 10) (h3' : I' 83 3 = Int32.ofNat k') (hE' : t_CE H' (I' 84) k') {g' w' : Nat} (hg' : g' < t_ng H') (hw' : w' ≤ 20) (y' may' : Int32) (hmay : may' = t_lk (fun q' => t_al (t_en H' L' (I' 84) g' (Int32.ofNat q')) k') 4) : ∃ J', F_X7_dishToTry 83 (Int32.ofNat g') (Int32.ofNat w') y' (I', X') = some (if may' = 0 then -1 else (t_mi (fun d' => q_ab (t_ln may' (fun q' => t_hj H' L' g' (Int32.ofNat q') d' w' y') 4)) (t_nd H')).1, (J', X')) ∧ (∀ c', c' ≠ 65 → c' ≠ p_sc X' → J' c' = I' c') := by
  have hsc' := p_scN hL'
  have hnd' := hW'.2.1
  obtain ⟨K', k1', k2'⟩ := s_kindsLeft (I' := I') (L' := L') hB' hH' hW' hL' hk' h3' hE' hg'
  rw [← hmay] at k1'
  by_cases hm' : may' = 0
  · refine ⟨K', ?_, k2'⟩
    unfold F_X7_dishToTry
    simp (disch := omega) only [↓ce_83 hB', rf_83 hB', ↓nn_40, ↓nn_64, ↓nn_85, p_bs, p_rq0, p_rq1, p_rz0, p_rz1, p_us, p_un, p_uj, ↓reduceIte, k1', hm']
  · obtain ⟨z', h1', J', rfl, j1'⟩ := p_lp (fun z' => B_X7_dishToTry_23 83 (Int32.ofNat g') (Int32.ofNat w') y' may' z'.1 z'.2.1 z'.2.2.1 z'.2.2.2) (fun i' z' => ∃ J', z' = ((t_mi (fun d' => q_ab (t_ln may' (fun q' => t_hj H' L' g' (Int32.ofNat q') d' w' y') 4)) i').1, (t_mi (fun d' => q_ab (t_ln may' (fun q' => t_hj H' L' g' (Int32.ofNat q') d' w' y') 4)) i').2, Int32.ofNat i', (J', X')) ∧ (∀ c', c' ≠ 65 → c' ≠ p_sc X' → J' c' = I' c'))
      (fun z' => ∃ J', z' = ((t_mi (fun d' => q_ab (t_ln may' (fun q' => t_hj H' L' g' (Int32.ofNat q') d' w' y') 4)) (t_nd H')).1, (J', X')) ∧ (∀ c', c' ≠ 65 → c' ≠ p_sc X' → J' c' = I' c')) (t_nd H') (by
        rintro i' z' hi' ⟨J', rfl, j1'⟩
        have n4' : J' 39 4 = Int32.ofNat (t_nd H') := by rw [j1' 39 (by decide) (by omega)]; exact hH'.2.2.2.2.1
        have hl8' : (Int32.ofNat i' < Int32.ofNat (t_nd H')) = (i' < t_nd H') := p_lt i' _ (by omega) (by omega)
        unfold B_X7_dishToTry_23 J_X7_dishToTry_66_23
        by_cases hlt' : i' < t_nd H'
        · left
          obtain ⟨K', k1', k2'⟩ := s_leanC (I' := J') (L' := L') hB' (t_HIk hH' (fun c' h1' h2' => j1' c' (by omega) (by omega))) hW' (t_LCk hL' (fun c' h1' h2' => j1' c' (by omega) h2')) hg' hlt' hw' may' y'
          have kf' : ∀ c', c' ≠ 65 → c' ≠ p_sc X' → K' c' = I' c' := fun c' z1' z2' => by rw [k2' c' z1' z2']; exact j1' c' z1' z2'
          by_cases hb' : q_ab (t_ln may' (fun q' => t_hj H' L' g' (Int32.ofNat q') i' w' y') 4) < (t_mi (fun d' => q_ab (t_ln may' (fun q' => t_hj H' L' g' (Int32.ofNat q') d' w' y') 4)) i').2
          · simp (disch := omega) only [↓ce_83 hB', rf_83 hB', ↓ce_39 hB', rf_39 hB', ↓nn_40, ↓nn_41, ↓nn_42, ↓nn_43, ↓nn_44, ↓nn_64, ↓nn_85, p_bs, p_rq0, p_rq1, p_rz0, p_rz1, p_us, p_un, p_uj, ↓reduceIte, n4', hl8', hlt', k1', hb', p_ar]
            exact ⟨_, rfl, True.intro, K', by rw [t_mi]; simp only [hb', ↓reduceIte], kf'⟩
          · simp (disch := omega) only [↓ce_83 hB', rf_83 hB', ↓ce_39 hB', rf_39 hB', ↓nn_40, ↓nn_41, ↓nn_42, ↓nn_43, ↓nn_44, ↓nn_64, ↓nn_85, p_bs, p_rq0, p_rq1, p_rz0, p_rz1, p_us, p_un, p_uj, ↓reduceIte, n4', hl8', hlt', k1', hb', p_ar]
            exact ⟨_, rfl, True.intro, K', by rw [t_mi]; simp only [hb', ↓reduceIte], kf'⟩
        · right
          have hi'' : i' = t_nd H' := by omega
          subst hi''
          simp (disch := omega) only [↓ce_83 hB', rf_83 hB', ↓ce_39 hB', rf_39 hB', ↓nn_40, ↓nn_41, ↓nn_42, ↓nn_43, ↓nn_44, ↓nn_64, ↓nn_85, p_bs, p_rq0, p_rq1, p_rz0, p_rz1, p_us, p_un, p_uj, ↓reduceIte, n4', hl8', Nat.lt_irrefl]
          exact ⟨_, rfl, J', rfl, j1'⟩) (t_nd H') 0 q_fu (-1, 5, 0, (K', X')) (by omega) (by unfold q_fu; omega) ⟨K', rfl, k2'⟩
    refine ⟨J', ?_, j1'⟩
    unfold F_X7_dishToTry
    simp (disch := omega) only [↓ce_83 hB', rf_83 hB', ↓nn_40, ↓nn_64, ↓nn_85, p_bs, p_rq0, p_rq1, p_rz0, p_rz1, p_us, p_un, p_uj, ↓reduceIte, k1', hm', h1']
theorem s_probeM (hB' : p_B X') (hS0' : p_S I') (hM' : t_HM H' I') (hW' : t_HW H') (hL' : t_LM L' X' I') {g' w' : Nat} (hg' : g' < t_ng H') (hw' : w' ≤ 20) (y' may' : Int32) {F' : Nat → Int32} (hF' : ∀ d', q_ab (t_ln may' (fun q' => t_hj H' L' g' (Int32.ofNat q') d' w' y') 4) = F' d') : ∃ J' u', q_lp (fun z' => B_X12_probe_64 87 (Int32.ofNat g') (Int32.ofNat w') y' may' z'.1 z'.2.1 z'.2.2.1 z'.2.2.2) q_fu ((-1 : Int32), (0 : Int32), (0 : Int32), (I', X')) = some ((t_mi F' (t_nd H')).1, (J', p_T X' u')) ∧ (∀ c', c' ≠ 87 → c' ≠ 91 → J' c' = I' c') ∧ (∀ j', ¬ t_m87 j' → J' 87 j' = I' 87 j') := by
  have hnd' := hW'.2.1
  have h5' : F' 0 < 5 := by rw [← hF' 0]; exact t_ln5 _ _
  obtain ⟨z', h1', J', u', rfl, j1', j2'⟩ := p_lp (fun z' => B_X12_probe_64 87 (Int32.ofNat g') (Int32.ofNat w') y' may' z'.1 z'.2.1 z'.2.2.1 z'.2.2.2) (fun i' z' => ∃ J' u', z' = ((t_mi F' i').1, (if i' = 0 then 0 else (t_mi F' i').2), Int32.ofNat i', (J', p_T X' u')) ∧ (∀ c', c' ≠ 87 → c' ≠ 91 → J' c' = I' c') ∧ (∀ j', ¬ t_m87 j' → J' 87 j' = I' 87 j'))
    (fun z' => ∃ J' u', z' = ((t_mi F' (t_nd H')).1, (J', p_T X' u')) ∧ (∀ c', c' ≠ 87 → c' ≠ 91 → J' c' = I' c') ∧ (∀ j', ¬ t_m87 j' → J' 87 j' = I' 87 j')) (t_nd H') (by
      rintro i' z' hi' ⟨J', u', rfl, j1', j2'⟩
      have hl8' : (Int32.ofNat i' < Int32.ofNat (t_nd H')) = (i' < t_nd H') := p_lt i' _ (by omega) (by omega)
      have n26' : J' 87 26 = Int32.ofNat (t_nd H') := by rw [j2' 26 (by omega)]; exact hM'.2.2.2.1
      have hB0' := hB'
      have hB' := p_BT hB0' u'
      unfold B_X12_probe_64 J_X12_probe_148_64 J_X12_probe_156_64
      by_cases hlt' : i' < t_nd H'
      · left
        obtain ⟨K', u'', k1', k2', k3'⟩ := s_leanM (I' := J') (L' := L') hB' (fun c' hc' => by rw [j1' c' (by omega) (by omega)]; exact hS0' c' hc') (t_HMk hM' (j1' 92 (by decide) (by decide)) (j1' 94 (by decide) (by decide)) (j1' 96 (by decide) (by decide)) (j2' 26 (by omega)) (j2' 27 (by omega))) hW' (t_LMk (t_LMT hL' u') (j2' 34 (by omega)) (j1' 89 (by decide) (by decide)) (j1' 90 (by decide) (by decide))) hg' hlt' hw' may' y' (t_mi F' i').1 (if i' = 0 then 0 else (t_mi F' i').2)
        rw [p_TT] at k1'
        have kf' : ∀ c', c' ≠ 87 → c' ≠ 91 → K' c' = I' c' := fun c' z1' z2' => by rw [k2' c' z1' z2']; exact j1' c' z1' z2'
        have kg' : ∀ j', ¬ t_m87 j' → K' 87 j' = I' 87 j' := fun j' hj' => by rw [k3' j' hj']; exact j2' j' hj'
        have hFi' := hF' i'
        by_cases hi0' : i' = 0
        · subst hi0'
          have m0' : t_mi F' 0 = (-1, 5) := rfl
          have m1' : t_mi F' (0 + 1) = (Int32.ofNat 0, F' 0) := by rw [t_mi, m0']; simp only [h5', ↓reduceIte]
          refine ⟨((t_mi F' (0 + 1)).1, (if 0 + 1 = 0 then 0 else (t_mi F' (0 + 1)).2), Int32.ofNat (0 + 1), (K', p_T X' u'')), ?_, hlt', K', u'', rfl, kf', kg'⟩
          simp only [m0', ↓reduceIte] at k1' ⊢
          simp (disch := omega) only [↓ce_87 hB', rf_87 hB', ↓nn_31, ↓nn_33, ↓nn_89, ↓nn_90, ↓nn_91, ↓nn_92, ↓nn_93, ↓nn_94, ↓nn_95, ↓nn_96, ↓nn_97, ↓nn_98, ↓nn_99, ↓nn_100, ↓nn_101, ↓nn_102, ↓nn_103, ↓nn_104, ↓nn_105, ↓nn_106, ↓nn_107, ↓nn_108, p_bs, p_rq0, p_rq1, p_rz0, p_rz1, p_us, p_un, p_uj, ↓reduceIte, n26', hl8', hlt', k1', hFi', m1', p_ar]
          rfl
        · obtain ⟨m', rfl⟩ : ∃ m', i' = m' + 1 := ⟨i' - 1, by omega⟩
          obtain ⟨x', x1', x2'⟩ := t_miN (f' := F') h5' (n' := m') (by omega)
          have xn' : ((t_mi F' (m' + 1)).1 = -1) = False := by rw [x2']; exact p_ofN1 x' (by omega)
          have z0' : (m' + 1 = 0) = False := by simp
          have z1' : (m' + 1 + 1 = 0) = False := by simp
          have mm' : t_mi F' (m' + 1 + 1) = if F' (m' + 1) < (t_mi F' (m' + 1)).2 then (Int32.ofNat (m' + 1), F' (m' + 1)) else t_mi F' (m' + 1) := rfl
          refine ⟨((t_mi F' (m' + 1 + 1)).1, (if m' + 1 + 1 = 0 then 0 else (t_mi F' (m' + 1 + 1)).2), Int32.ofNat (m' + 1 + 1), (K', p_T X' u'')), ?_, hlt', K', u'', rfl, kf', kg'⟩
          simp only [z0', z1', ↓reduceIte] at k1' ⊢
          by_cases hb' : F' (m' + 1) < (t_mi F' (m' + 1)).2
          · rw [if_pos hb'] at mm'
            simp (disch := omega) only [↓ce_87 hB', rf_87 hB', ↓nn_31, ↓nn_33, ↓nn_89, ↓nn_90, ↓nn_91, ↓nn_92, ↓nn_93, ↓nn_94, ↓nn_95, ↓nn_96, ↓nn_97, ↓nn_98, ↓nn_99, ↓nn_100, ↓nn_101, ↓nn_102, ↓nn_103, ↓nn_104, ↓nn_105, ↓nn_106, ↓nn_107, ↓nn_108, p_bs, p_rq0, p_rq1, p_rz0, p_rz1, p_us, p_un, p_uj, ↓reduceIte, n26', hl8', hlt', k1', hFi', xn', hb', mm', p_ar]
          · rw [if_neg hb'] at mm'
            simp (disch := omega) only [↓ce_87 hB', rf_87 hB', ↓nn_31, ↓nn_33, ↓nn_89, ↓nn_90, ↓nn_91, ↓nn_92, ↓nn_93, ↓nn_94, ↓nn_95, ↓nn_96, ↓nn_97, ↓nn_98, ↓nn_99, ↓nn_100, ↓nn_101, ↓nn_102, ↓nn_103, ↓nn_104, ↓nn_105, ↓nn_106, ↓nn_107, ↓nn_108, p_bs, p_rq0, p_rq1, p_rz0, p_rz1, p_us, p_un, p_uj, ↓reduceIte, n26', hl8', hlt', k1', hFi', xn', hb', mm', p_ar]
      · right
        have hi'' : i' = t_nd H' := by omega
        subst hi''
        simp (disch := omega) only [↓ce_87 hB', rf_87 hB', ↓nn_31, ↓nn_33, ↓nn_89, ↓nn_90, ↓nn_91, ↓nn_92, ↓nn_93, ↓nn_94, ↓nn_95, ↓nn_96, ↓nn_97, ↓nn_98, ↓nn_99, ↓nn_100, ↓nn_101, ↓nn_102, ↓nn_103, ↓nn_104, ↓nn_105, ↓nn_106, ↓nn_107, ↓nn_108, p_bs, p_rq0, p_rq1, p_rz0, p_rz1, p_us, p_un, p_uj, ↓reduceIte, n26', hl8', Nat.lt_irrefl]
        exact ⟨_, rfl, J', u', rfl, j1', j2'⟩) (t_nd H') 0 q_fu (-1, 0, 0, (I', X')) (by omega) (by unfold q_fu; omega) ⟨I', X'.2.1 87 5, by rw [p_Ts]; rfl, fun _ _ _ => rfl, fun _ _ => rfl⟩
  exact ⟨J', u', h1', j1', j2'⟩
end PL'
section PL'
variable {A' : v_A} {X' : p_X} {I' : p_I}
theorem m_probe (h' : v_V A' I' X') (l' w' y' : Int32) : ∃ r' I1' J' X1', F_X11_probe 36 l' w' y' (I', X') = some (r', (I1', X')) ∧ F_X12_probe 87 l' w' y' (I1', X') = some (r', (J', X1')) ∧ v_V A' J' X1' := by
  have hB' := h'.1
  obtain ⟨L', hLC', hLM'⟩ := v_law h'
  have hsc' := p_scN hLC'
  have hH' := h'.2.2.2.1
  have hg' := s_hasGuest hB' hH'.2.1 l'
  have hg'' := s_isGuest hB' (v_thr h').2.2.2.1.2.2.1 l'
  have hng6' : t_ng A'.1 ≤ 6 := hH'.2.1.2.2.2.2.2.2.2
  have hw' : ∀ M' : q_Mem, F_X12_isIn w'.toInt64 0 20 M' = some (t_b (t_inr w' 21)) := fun M' => s_isInT w' 20 (by decide) 0 20 rfl rfl M'
  have hy' : ∀ M' : q_Mem, F_X12_isIn y'.toInt64 (-9) 20 M' = some (t_b (decide (-9 ≤ y') && decide (y' ≤ 20))) := fun M' => s_isIn3 y' (-9) 20 M'
  have hwj' := fun M' => s_areWJ w' y' M'
  obtain ⟨k', q1', q2', q3', q4', q5'⟩ := h'.2.2.2.2.2.2.2.1
  cases hr' : t_inr l' (t_ng A'.1)
  · refine ⟨-1, I', _, X', ?_, ?_, v_thr h'⟩
    · unfold F_X11_probe
      simp (disch := omega) only [↓ce_36 hB', rf_36 hB', ↓ce_39 hB', rf_39 hB', ↓nn_38, ↓nn_40, ↓nn_41, ↓nn_42, ↓nn_43, ↓nn_44, ↓nn_45, ↓nn_50, ↓nn_52, ↓nn_53, ↓nn_54, ↓nn_56, ↓nn_58, ↓nn_64, ↓nn_67, ↓nn_68, ↓nn_84, p_bs, p_rq0, p_rq1, p_rz0, p_rz1, p_us, p_un, p_uj, ↓reduceIte, hg', hr', t_b0]
    · unfold F_X12_probe
      simp (disch := omega) only [↓ce_87 hB', rf_87 hB', ↓nn_31, ↓nn_33, ↓nn_89, ↓nn_90, ↓nn_91, ↓nn_92, ↓nn_93, ↓nn_94, ↓nn_95, ↓nn_96, ↓nn_97, ↓nn_98, ↓nn_99, ↓nn_100, ↓nn_101, ↓nn_102, ↓nn_103, ↓nn_104, ↓nn_105, ↓nn_106, ↓nn_107, ↓nn_108, p_bs, p_rq0, p_rq1, p_rz0, p_rz1, p_us, p_un, p_uj, ↓reduceIte, hg'', hr', t_b0]
  · cases hr3' : t_inr w' 21
    · refine ⟨-1, I', _, X', ?_, ?_, v_thr h'⟩
      · unfold F_X11_probe
        simp (disch := omega) only [↓ce_36 hB', rf_36 hB', ↓ce_39 hB', rf_39 hB', ↓nn_38, ↓nn_40, ↓nn_41, ↓nn_42, ↓nn_43, ↓nn_44, ↓nn_45, ↓nn_50, ↓nn_52, ↓nn_53, ↓nn_54, ↓nn_56, ↓nn_58, ↓nn_64, ↓nn_67, ↓nn_68, ↓nn_84, p_bs, p_rq0, p_rq1, p_rz0, p_rz1, p_us, p_un, p_uj, ↓reduceIte, hg', hr', hwj', hr3', Bool.false_and, t_b0, Bool.true_eq_false]
      · unfold F_X12_probe
        simp (disch := omega) only [↓ce_87 hB', rf_87 hB', ↓nn_31, ↓nn_33, ↓nn_89, ↓nn_90, ↓nn_91, ↓nn_92, ↓nn_93, ↓nn_94, ↓nn_95, ↓nn_96, ↓nn_97, ↓nn_98, ↓nn_99, ↓nn_100, ↓nn_101, ↓nn_102, ↓nn_103, ↓nn_104, ↓nn_105, ↓nn_106, ↓nn_107, ↓nn_108, p_bs, p_rq0, p_rq1, p_rz0, p_rz1, p_us, p_un, p_uj, ↓reduceIte, hg'', hr', hw', hr3', t_b0, Bool.true_eq_false]
    · cases hr4' : (decide ((-9 : Int32) ≤ y') && decide (y' ≤ 20))
      · refine ⟨-1, I', _, X', ?_, ?_, v_thr h'⟩
        · unfold F_X11_probe
          simp (disch := omega) only [↓ce_36 hB', rf_36 hB', ↓ce_39 hB', rf_39 hB', ↓nn_38, ↓nn_40, ↓nn_41, ↓nn_42, ↓nn_43, ↓nn_44, ↓nn_45, ↓nn_50, ↓nn_52, ↓nn_53, ↓nn_54, ↓nn_56, ↓nn_58, ↓nn_64, ↓nn_67, ↓nn_68, ↓nn_84, p_bs, p_rq0, p_rq1, p_rz0, p_rz1, p_us, p_un, p_uj, ↓reduceIte, hg', hr', hwj', hr3', hr4', Bool.true_and, t_b0, Bool.true_eq_false]
        · unfold F_X12_probe
          simp (disch := omega) only [↓ce_87 hB', rf_87 hB', ↓nn_31, ↓nn_33, ↓nn_89, ↓nn_90, ↓nn_91, ↓nn_92, ↓nn_93, ↓nn_94, ↓nn_95, ↓nn_96, ↓nn_97, ↓nn_98, ↓nn_99, ↓nn_100, ↓nn_101, ↓nn_102, ↓nn_103, ↓nn_104, ↓nn_105, ↓nn_106, ↓nn_107, ↓nn_108, p_bs, p_rq0, p_rq1, p_rz0, p_rz1, p_us, p_un, p_uj, ↓reduceIte, hg'', hr', hw', hr3', hy', hr4', t_b0, Bool.true_eq_false]
      · obtain ⟨g', hgl', rfl⟩ := t_inrE (by omega) hr'
        obtain ⟨wn', hwn', rfl⟩ := t_inrE (by omega) hr3'
        have hz' : A'.2.1 = true := by
          cases hz' : A'.2.1
          · have := (v_zf h' hz').2; omega
          · rfl
        have hHW' := hH'.2.2.2.1 hz'
        obtain ⟨may', hmay⟩ : ∃ m', m' = t_lk (fun q' => t_al (t_en A'.1 L' (I' 84) g' (Int32.ofNat q')) k') 4 := ⟨_, rfl⟩
        obtain ⟨I1', a1', a2'⟩ := s_dishToTry (I' := I') (L' := L') hB' hH'.2.1 hHW' hLC' q1' q2' q5' hgl' (show wn' ≤ 20 by omega) y' may' hmay
        have f1' : ∀ c', 70 ≤ c' → c' < 109 → I1' c' = I' c' := fun c' z1' z2' => a2' c' (by omega) (by omega)
        have hM1' : t_HM A'.1 (q_u2 I1' 87 0 0) := v_hm h' (by rw [p_uc _ _ _ _ _ (by decide), f1' 92 (by decide) (by decide)]) (by rw [p_uc _ _ _ _ _ (by decide), f1' 94 (by decide) (by decide)]) (by rw [p_uc _ _ _ _ _ (by decide), f1' 96 (by decide) (by decide)]) (by rw [p_uj _ _ _ _ _ (by decide), f1' 87 (by decide) (by decide)]) (by rw [p_uj _ _ _ _ _ (by decide), f1' 87 (by decide) (by decide)])
        have hg2' := s_isGuest hB' hM1' (Int32.ofNat g')
        have hS1' : p_S (q_u2 I1' 87 0 0) := fun c' hc' => by rw [p_uc _ _ _ _ _ (by omega), a2' c' (by omega) (by omega)]; exact h'.2.1 c' hc'
        have hLM1' : t_LM L' X' (q_u2 I1' 87 0 0) := t_LMk hLM' (by rw [p_uj _ _ _ _ _ (by decide), f1' 87 (by decide) (by decide)]) (by rw [p_uc _ _ _ _ _ (by decide), f1' 89 (by decide) (by decide)]) (by rw [p_uc _ _ _ _ _ (by decide), f1' 90 (by decide) (by decide)])
        obtain ⟨J1', u', b1', b2', b3'⟩ := s_liked (I' := q_u2 I1' 87 0 0) (L' := L') (e' := I' 84) hB' hS1' hM1' hHW' hLM1' q1' (by rw [p_uj _ _ _ _ _ (by decide), f1' 87 (by decide) (by decide)]; exact q3') (by rw [p_uc _ _ _ _ _ (by decide), f1' 104 (by decide) (by decide)]; exact q4') q5' hgl'
        rw [← hmay] at b1'
        have vJ1' := v_ask (u' := u') h' (I1' := I1') (J' := J1') (fun c' z1' z2' z3' z4' z5' => a2' c' z3' z4') (fun c' z1' z2' z3' z4' => by rw [b2' c' z1' z2', p_uc _ _ _ _ _ z1']) (fun j' z1' z2' => by rw [b3' j' z1', p_uj _ _ _ _ _ z2'])
        by_cases hm' : may' = 0
        · rw [if_pos hm'] at a1'
          refine ⟨-1, I1', J1', p_T X' u', ?_, ?_, vJ1'⟩
          · unfold F_X11_probe
            simp (disch := omega) only [↓ce_36 hB', rf_36 hB', ↓ce_39 hB', rf_39 hB', ↓ce_83 hB', rf_83 hB', ↓nn_38, ↓nn_40, ↓nn_41, ↓nn_42, ↓nn_43, ↓nn_44, ↓nn_45, ↓nn_50, ↓nn_52, ↓nn_53, ↓nn_54, ↓nn_56, ↓nn_58, ↓nn_64, ↓nn_67, ↓nn_68, ↓nn_84, ↓nn_85, p_bs, p_rq0, p_rq1, p_rz0, p_rz1, p_us, p_un, p_uj, ↓reduceIte, hg', hr', hwj', hr3', hr4', Bool.true_and, t_b0, Bool.true_eq_false, a1']
          · unfold F_X12_probe
            simp (disch := omega) only [↓ce_87 hB', rf_87 hB', ↓nn_31, ↓nn_33, ↓nn_89, ↓nn_90, ↓nn_91, ↓nn_92, ↓nn_93, ↓nn_94, ↓nn_95, ↓nn_96, ↓nn_97, ↓nn_98, ↓nn_99, ↓nn_100, ↓nn_101, ↓nn_102, ↓nn_103, ↓nn_104, ↓nn_105, ↓nn_106, ↓nn_107, ↓nn_108, p_bs, p_rq0, p_rq1, p_rz0, p_rz1, p_us, p_un, p_uj, ↓reduceIte, hg2', hr', hw', hr3', hy', hr4', t_b0, Bool.true_eq_false, b1', hm']
        · rw [if_neg hm'] at a1'
          obtain ⟨J2', u'', c1', c2', c3'⟩ := s_probeM (I' := J1') (H' := A'.1) (L' := L') (p_BT hB' u') (fun c' hc' => by rw [b2' c' (by omega) (by omega)]; exact hS1' c' hc') (t_HMk hM1' (b2' 92 (by decide) (by decide)) (b2' 94 (by decide) (by decide)) (b2' 96 (by decide) (by decide)) (b3' 26 (by omega)) (b3' 27 (by omega))) hHW' (t_LMk (t_LMT hLM1' u') (b3' 34 (by omega)) (b2' 89 (by decide) (by decide)) (b2' 90 (by decide) (by decide))) hgl' (show wn' ≤ 20 by omega) y' may' (F' := fun d' => q_ab (t_ln may' (fun q' => t_hj A'.1 L' g' (Int32.ofNat q') d' wn' y') 4)) (fun _ => rfl)
          rw [p_TT] at c1'
          refine ⟨(t_mi (fun d' => q_ab (t_ln may' (fun q' => t_hj A'.1 L' g' (Int32.ofNat q') d' wn' y') 4)) (t_nd A'.1)).1, I1', J2', p_T X' u'', ?_, ?_, v_ask h' (I1' := I1') (fun c' z1' z2' z3' z4' z5' => a2' c' z3' z4') (fun c' z1' z2' z3' z4' => by rw [c2' c' z1' z2', b2' c' z1' z2', p_uc _ _ _ _ _ z1']) (fun j' z1' z2' => by rw [c3' j' z1', b3' j' z1', p_uj _ _ _ _ _ z2'])⟩
          · unfold F_X11_probe
            simp (disch := omega) only [↓ce_36 hB', rf_36 hB', ↓ce_39 hB', rf_39 hB', ↓ce_83 hB', rf_83 hB', ↓nn_38, ↓nn_40, ↓nn_41, ↓nn_42, ↓nn_43, ↓nn_44, ↓nn_45, ↓nn_50, ↓nn_52, ↓nn_53, ↓nn_54, ↓nn_56, ↓nn_58, ↓nn_64, ↓nn_67, ↓nn_68, ↓nn_84, ↓nn_85, p_bs, p_rq0, p_rq1, p_rz0, p_rz1, p_us, p_un, p_uj, ↓reduceIte, hg', hr', hwj', hr3', hr4', Bool.true_and, t_b0, Bool.true_eq_false, a1']
          · unfold F_X12_probe
            simp (disch := omega) only [↓ce_87 hB', rf_87 hB', ↓nn_31, ↓nn_33, ↓nn_89, ↓nn_90, ↓nn_91, ↓nn_92, ↓nn_93, ↓nn_94, ↓nn_95, ↓nn_96, ↓nn_97, ↓nn_98, ↓nn_99, ↓nn_100, ↓nn_101, ↓nn_102, ↓nn_103, ↓nn_104, ↓nn_105, ↓nn_106, ↓nn_107, ↓nn_108, p_bs, p_rq0, p_rq1, p_rz0, p_rz1, p_us, p_un, p_uj, ↓reduceIte, hg2', hr', hw', hr3', hy', hr4', t_b0, Bool.true_eq_false, b1', hm', c1']
end PL'
