/-! the reference's day: the loop over guests, the log, the whole -/
theorem t_gl4 (H' : t_H) (L' : t_L) (s' r' : Nat → Int32) (hng' : t_ng H' ≤ 6) (hr' : ∃ p' : Nat → Bool, r' 4 = t_B p' ∧ ∀ g', t_ng H' ≤ g' → p' g' = false) (m' : Nat) (hm' : m' ≤ t_ng H') : ∃ p' : Nat → Bool, t_gl H' L' s' r' m' 4 = t_B p' ∧ ∀ g', t_ng H' ≤ g' → p' g' = false := by
  induction m' with
  | zero => exact hr'
  | succ m' ih' =>
    obtain ⟨p', h1', h2'⟩ := ih' (by omega)
    rw [t_gl]
    split
    · unfold t_gd
      try simp only
      split
      · rw [p_vn _ _ _ _ (by omega), p_vn _ _ _ _ (by omega)]; exact ⟨p', h1', h2'⟩
      · rw [p_vs, h1', t_BO p' m' (by omega)]
        refine ⟨_, rfl, fun g' hg' => ?_⟩
        have : g' ≠ m' := by omega
        simp [h2' g' hg', this]
    · exact ⟨p', h1', h2'⟩
theorem t_mxj (v' : Int32) : -99 ≤ (q_mx (-99) (q_mn 999 v')).toInt ∧ (q_mx (-99) (q_mn 999 v')).toInt ≤ 999 := by
  have e1' : (-99 : Int32).toInt = -99 := by decide
  have e2' : (999 : Int32).toInt = 999 := by decide
  unfold q_mx q_mn
  by_cases h1' : v' < 999
  · rw [if_pos h1']
    by_cases h2' : -99 < v'
    · rw [if_pos h2']
      rw [Int32.lt_iff_toInt_lt, e2'] at h1'
      rw [Int32.lt_iff_toInt_lt, e1'] at h2'
      omega
    · rw [if_neg h2', e1']
      omega
  · rw [if_neg h1', if_pos (by decide), e2']
    omega
theorem t_glJ (H' : t_H) (L' : t_L) (s' r' : Nat → Int32) (g' : Nat) (hr' : -99 ≤ (r' (25 + g')).toInt ∧ (r' (25 + g')).toInt ≤ 999) (m' : Nat) : -99 ≤ (t_gl H' L' s' r' m' (25 + g')).toInt ∧ (t_gl H' L' s' r' m' (25 + g')).toInt ≤ 999 := by
  induction m' with
  | zero => exact hr'
  | succ m' ih' =>
    rw [t_gl]
    split
    · by_cases e' : g' = m'
      · subst e'
        unfold t_gd
        try simp only
        split
        · rw [p_vn _ _ _ _ (by omega), p_vs]; exact t_mxj _
        · rw [p_vn _ _ _ _ (by omega), p_vn _ _ _ _ (by omega), p_vs]; exact t_mxj _
      · rw [t_gdF _ _ _ _ _ _ (by omega) (by omega) (by omega)]; exact ih'
    · exact ih'
/-- the row behind a day is a good row -/
theorem t_psW {H' : t_H} {L' : t_L} {s' : Nat → Int32} (hW' : t_HW H') (hS' : t_WF H' s') {D' : Nat} (hD' : s' 0 = Int32.ofNat D') (hD'' : D' < 2000) : t_WF H' (t_ps H' L' s') ∧ t_ps H' L' s' 0 = Int32.ofNat (D' + 1) := by
  have hng' := hW'.2.2.2.1
  obtain ⟨dc', hdc', hdc''⟩ := t_ckN hW'.2.1 hW'.1 hS'
  obtain ⟨np', hnp', hnp''⟩ := t_pnN (H' := H') s'
  obtain ⟨-, b2', b3', b4', b5', b6', b7', b8'⟩ := hS'
  have hsl' : (s' 0 &&& 3).toNatClampNeg < 4 := t_slL s'
  generalize hq' : (s' 0 &&& 3).toNatClampNeg = q' at hsl'
  have hp1' : ∀ j', j' ≠ 5 + q' → j' ≠ 9 + q' → j' ≠ 2 → t_p1 H' s' j' = s' j' := fun j' h1' h2' h3' => by
    unfold t_p1
    rw [hq', p_vn _ _ _ _ h3', p_vn _ _ _ _ h2', p_vn _ _ _ _ h1']
  have hp5' : t_p1 H' s' (5 + q') = t_ck H' s' := by
    unfold t_p1
    rw [hq', p_vn _ _ _ _ (by omega), p_vn _ _ _ _ (by omega), p_vs]
  have hp9' : t_p1 H' s' (9 + q') = t_pn H' s' := by
    unfold t_p1
    rw [hq', p_vn _ _ _ _ (by omega), p_vs]
  have hps' : ∀ j', j' ≠ 0 → j' ≠ 2 → j' ≠ 3 → j' ≠ 4 → (j' < 25 ∨ 25 + t_ng H' ≤ j') → t_ps H' L' s' j' = t_p1 H' s' j' := fun j' h0' h1' h2' h3' h4' => by
    unfold t_ps
    try simp only
    rw [p_vn _ _ _ _ h0', p_vn _ _ _ _ h2', t_glF _ _ _ _ _ _ h1' h3' h4']
  have h0' : t_ps H' L' s' 0 = Int32.ofNat (D' + 1) := by
    unfold t_ps
    try simp only
    rw [p_vs, t_glF _ _ _ _ _ _ (by omega) (by omega) (by omega), hp1' _ (by omega) (by omega) (by omega), hD']
    exact (Int32.ofNat_add D' 1).symm
  refine ⟨⟨⟨D' + 1, h0', by omega⟩, ?_, ?_, ?_, ?_, ?_, ?_, ?_⟩, h0'⟩
  · rw [hps' 1 (by omega) (by omega) (by omega) (by omega) (by omega), hp1' _ (by omega) (by omega) (by omega)]; exact b2'
  · left
    unfold t_ps
    try simp only
    rw [p_vn _ _ _ _ (by omega), p_vs]
  · intro j' hj'
    rw [hps' _ (by omega) (by omega) (by omega) (by omega) (by omega)]
    by_cases e' : j' = q'
    · subst e'; rw [hp5']; exact ⟨dc', hdc', hdc''⟩
    · rw [hp1' _ (by omega) (by omega) (by omega)]; exact b4' j' hj'
  · intro j' hj'
    rw [hps' _ (by omega) (by omega) (by omega) (by omega) (by omega)]
    by_cases e' : j' = q'
    · subst e'; rw [hp9']; exact ⟨np', hnp', hnp''⟩
    · rw [hp1' _ (by omega) (by omega) (by omega)]; exact b5' j' hj'
  · intro g' hg'
    rw [hps' _ (by omega) (by omega) (by omega) (by omega) (by omega), hp1' _ (by omega) (by omega) (by omega)]; exact b6' g' hg'
  · have : t_ps H' L' s' 4 = t_gl H' L' s' (t_p1 H' s') (t_ng H') 4 := by
      unfold t_ps
      try simp only
      rw [p_vn _ _ _ _ (by omega), p_vn _ _ _ _ (by omega)]
    rw [this]
    refine t_gl4 H' L' s' _ hng' ?_ _ (Nat.le_refl _)
    rw [hp1' _ (by omega) (by omega) (by omega)]
    exact b7'
  · intro g' h1' h2'
    by_cases hg' : g' < t_ng H'
    · have e' : t_ps H' L' s' (25 + g') = t_gl H' L' s' (t_p1 H' s') (t_ng H') (25 + g') := by
        unfold t_ps
        try simp only
        rw [p_vn _ _ _ _ (by omega), p_vn _ _ _ _ (by omega)]
      rw [e']
      refine ⟨fun h' => absurd h' (by omega), t_glJ H' L' s' _ g' ?_ _⟩
      rw [hp1' _ (by omega) (by omega) (by omega)]
      exact (b8' g' h1' h2').2
    · rw [hps' _ (by omega) (by omega) (by omega) (by omega) (by omega), hp1' _ (by omega) (by omega) (by omega)]; exact b8' g' h1' h2'
/-- all joys -/
def t_sm (s' : Nat → Int32) : Nat → Int32
  | 0 => 0
  | n' + 1 => t_sm s' n' + s' (25 + n')
theorem t_smZ (s' : Nat → Int32) (n' m' : Nat) (h' : ∀ g', n' ≤ g' → g' < n' + m' → s' (25 + g') = 0) : t_sm s' (n' + m') = t_sm s' n' := by
  induction m' with
  | zero => rfl
  | succ m' ih' =>
    rw [← Nat.add_assoc, t_sm, ih' (fun g' h1' h2' => h' g' h1' (by omega)), h' (n' + m') (by omega) (by omega), Int32.add_zero]
theorem t_sm6 {H' : t_H} {s' : Nat → Int32} (hng' : t_ng H' ≤ 6) (hS' : t_WF H' s') : t_sm s' (t_ng H') = t_sm s' 6 := by
  have h' := t_smZ s' (t_ng H') (6 - t_ng H') (fun g' h1' h2' => (hS'.2.2.2.2.2.2.2 g' (by omega) (by omega)).1 h1')
  rw [show t_ng H' + (6 - t_ng H') = 6 by omega] at h'
  exact h'.symm
/-- who was fed twice was fed once -/
theorem t_qF (H' : t_H) (s' : Nat → Int32) (i' : Nat) (h' : 0 < (t_q H' s' i').1) (j' : Nat) (hj' : j' < i') (ht' : t_tp H' s' (t_ho H' j') = true) : (t_q H' s' i').2 (t_ho H' j') = true := by
  induction i' with
  | zero => omega
  | succ i' ih' =>
    rw [t_q] at h' ⊢
    by_cases hc' : 0 < (t_q H' s' i').1 ∧ t_tp H' s' (t_ho H' i') = true
    · rw [if_pos hc'] at h' ⊢
      simp only [Bool.or_eq_true, beq_iff_eq]
      by_cases e' : j' = i'
      · subst e'; exact .inr rfl
      · exact .inl (ih' hc'.1 (by omega))
    · rw [if_neg hc'] at h' ⊢
      by_cases e' : j' = i'
      · subst e'; exact absurd ⟨h', ht'⟩ hc'
      · exact ih' h' (by omega)
theorem t_rF {H' : t_H} (hW' : t_HW H') (s' : Nat → Int32) (i' : Nat) (hi' : i' ≤ t_ng H') (x' : Nat) (h' : (t_r H' s' i').2 x' = true) : t_fd H' s' x' = true := by
  induction i' with
  | zero => cases h'
  | succ i' ih' =>
    rw [t_r] at h'
    split at h'
    · rename_i hc'
      simp only [Bool.or_eq_true, beq_iff_eq] at h'
      rcases h' with h' | h'
      · exact ih' (by omega) h'
      · subst h'
        obtain ⟨j', h1', h2'⟩ := hW'.2.2.2.2.2.2.1 x' (by omega)
        have h3' := t_rL H' s' x'
        have h4' : t_tp H' s' x' = true := by
          have := hc'.2
          unfold t_ld at this
          rw [Bool.and_eq_true] at this
          exact this.1
        unfold t_fd
        rw [← h2']
        exact t_qF H' s' _ (by omega) j' h1' (by rw [h2']; exact h4')
    · exact ih' (by omega) h'
theorem t_plP {H' : t_H} (hW' : t_HW H') (s' : Nat → Int32) (g' : Nat) : ((0 : Int32) < t_pl H' s' g') = (t_fd H' s' g' = true) := by
  unfold t_pl
  have h' := t_rF hW' s' (t_ng H') (Nat.le_refl _) g'
  cases h1' : t_fd H' s' g' <;> cases h2' : (t_r H' s' (t_ng H')).2 g'
  · decide
  · rw [h' h2'] at h1'; cases h1'
  · decide
  · decide
theorem t_fdN {H' : t_H} (hW' : t_HW H') (s' : Nat → Int32) (g' : Nat) (h' : t_ng H' ≤ g') : t_fd H' s' g' = false := by
  cases h1' : t_fd H' s' g'
  · rfl
  · unfold t_fd at h1'
    obtain ⟨⟨j', h2', h3'⟩, -⟩ := t_qM H' s' _ g' h1'
    have := hW'.2.2.2.2.1 j' h2'
    omega
def t_LU (w' w'' e' : Nat → Int32) : Prop := ∃ n', n' ≤ 60 ∧ w' 36 = Int32.ofNat n' ∧ ((n' < 60 ∧ w'' 36 = Int32.ofNat (n' + 1) ∧ (∀ j', j' < 3 * n' → w'' (37 + j') = w' (37 + j')) ∧ ∀ k', k' < 3 → w'' (37 + 3 * n' + k') = e' k') ∨ (n' = 60 ∧ w'' 36 = Int32.ofNat 60 ∧ (∀ j', j' < 177 → w'' (37 + j') = w' (40 + j')) ∧ ∀ k', k' < 3 → w'' (214 + k') = e' k'))
def t_e3 (a' b' c' : Int32) (k' : Nat) : Int32 := match k' with
  | 0 => a' | 1 => b' | _ => c'
section PM'
variable {X' : p_X} {I' : p_I} {H' : t_H} {L' : t_L} {c' : Nat} {s' r' : Nat → Int32}
theorem s_fedBits (hB' : p_B X') (hM' : t_HM H' I') (hW' : t_HW H') (h' : ∀ g', g' < 6 → I' 102 g' = t_pl H' s' g') : F_X12_fedBits 87 (I', X') = some (t_B (t_fd H' s')) := by
  have hng' : t_ng H' ≤ 6 := hW'.2.2.2.1
  unfold F_X12_fedBits
  have hs' : ∀ i', i' < t_ng H' → B_X12_fedBits_4 87 (t_B (fun g' => decide (g' < i') && t_fd H' s' g')) (Int32.ofNat i') (I', X') = some (.inl (t_B (fun g' => decide (g' < i' + 1) && t_fd H' s' g'), Int32.ofNat (i' + 1))) := by
    intro i' hi'
    unfold B_X12_fedBits_4 J_X12_fedBits_29_4
    simp (disch := omega) only [↓ce_87 hB', rf_87 hB', ↓ce_102 hB', ↓nn_31, ↓nn_33, ↓nn_89, ↓nn_90, ↓nn_91, ↓nn_92, ↓nn_93, ↓nn_94, ↓nn_95, ↓nn_96, ↓nn_97, ↓nn_98, ↓nn_99, ↓nn_100, ↓nn_101, ↓nn_102, ↓nn_103, ↓nn_104, ↓nn_105, ↓nn_106, ↓nn_107, ↓nn_108, p_bs, p_rq0, p_rq1, p_rz0, p_rz1, p_us, p_un, p_uj, ↓reduceIte, hM'.2.2.2.2, p_lt, hi', h', t_plP hW', p_ar]
    cases ht' : t_fd H' s' i'
    · simp only [Bool.false_eq_true, ↓reduceIte]
      have e0' : t_B (fun g' => decide (g' < i') && t_fd H' s' g') ||| 0 = t_B (fun g' => decide (g' < i' + 1) && t_fd H' s' g') := by
        rw [show ∀ x' : Int32, x' ||| 0 = x' from fun x' => by simp]
        refine t_BC (fun g' _ => ?_)
        by_cases e' : g' = i'
        · subst e'; simp [ht']
        · have : (g' < i' + 1) = (g' < i') := by rw [eq_iff_iff]; omega
          simp [this]
      rw [e0']
    · simp only [↓reduceIte]
      have e0' : t_B (fun g' => decide (g' < i') && t_fd H' s' g') ||| ((1 : Int32) <<< (Int32.ofNat i' &&& 31)) = t_B (fun g' => decide (g' < i' + 1) && t_fd H' s' g') := by
        rw [t_BO _ _ (by omega)]
        refine t_BC (fun g' _ => ?_)
        by_cases e' : g' = i'
        · subst e'; simp [ht']
        · have : (g' < i' + 1) = (g' < i') := by rw [eq_iff_iff]; omega
          simp [this, e']
      rw [e0']
  have he' : B_X12_fedBits_4 87 (t_B (fun g' => decide (g' < t_ng H') && t_fd H' s' g')) (Int32.ofNat (t_ng H')) (I', X') = some (.inr (t_B (t_fd H' s'))) := by
    unfold B_X12_fedBits_4
    simp (disch := omega) only [↓ce_87 hB', rf_87 hB', ↓nn_31, ↓nn_33, ↓nn_89, ↓nn_90, ↓nn_91, ↓nn_92, ↓nn_93, ↓nn_94, ↓nn_95, ↓nn_96, ↓nn_97, ↓nn_98, ↓nn_99, ↓nn_100, ↓nn_101, ↓nn_102, ↓nn_103, ↓nn_104, ↓nn_105, ↓nn_106, ↓nn_107, ↓nn_108, p_bs, p_rq0, p_rq1, p_rz0, p_rz1, p_us, p_un, p_uj, ↓reduceIte, hM'.2.2.2.2, p_lt, Nat.lt_irrefl]
    refine congrArg (fun z' => some (Sum.inr z')) (t_BC (fun g' _ => ?_))
    by_cases e' : g' < t_ng H'
    · simp [e']
    · simp [e', t_fdN hW' s' g' (by omega)]
  rw [p_for (fun z' => B_X12_fedBits_4 87 z'.1 z'.2 (I', X')) (t_ng H') (fun i' => (t_B (fun g' => decide (g' < i') && t_fd H' s' g'), Int32.ofNat i')) (t_B (t_fd H' s')) (by unfold q_fu; omega) hs' he' _ (by rw [t_BZ (fun g' _ => by simp)]; rfl)]
  rfl
theorem s_joys (hB' : p_B X') (hM' : t_HM H' I') (hW' : t_HW H') (hc' : t_RK c') (h' : ∀ g', g' < 6 → I' c' (4 * g' + 2) = s' (25 + g')) : F_X12_joys 87 c' (I', X') = some (t_sm s' (t_ng H')) := by
  have hng' : t_ng H' ≤ 6 := hW'.2.2.2.1
  unfold F_X12_joys
  rw [p_for (fun z' => B_X12_joys_4 87 c' z'.1 z'.2 (I', X')) (t_ng H') (fun i' => (t_sm s' i', Int32.ofNat i')) (t_sm s' (t_ng H')) (by unfold q_fu; omega) (fun i' hi' => by
    try simp only
    unfold B_X12_joys_4
    simp (disch := omega) only [↓ce_87 hB', rf_87 hB', ↓nn_31, ↓nn_33, ↓nn_89, ↓nn_90, ↓nn_91, ↓nn_92, ↓nn_93, ↓nn_94, ↓nn_95, ↓nn_96, ↓nn_97, ↓nn_98, ↓nn_99, ↓nn_100, ↓nn_101, ↓nn_102, ↓nn_103, ↓nn_104, ↓nn_105, ↓nn_106, ↓nn_107, ↓nn_108, p_bs, p_rq0, p_rq1, p_rz0, p_rz1, p_us, p_un, p_uj, ↓reduceIte, p_mr hc' hB', hM'.2.2.2.2, p_lt, hi', p_ar, h']
    rfl) (by
    try simp only
    unfold B_X12_joys_4
    simp (disch := omega) only [↓ce_87 hB', rf_87 hB', ↓nn_31, ↓nn_33, ↓nn_89, ↓nn_90, ↓nn_91, ↓nn_92, ↓nn_93, ↓nn_94, ↓nn_95, ↓nn_96, ↓nn_97, ↓nn_98, ↓nn_99, ↓nn_100, ↓nn_101, ↓nn_102, ↓nn_103, ↓nn_104, ↓nn_105, ↓nn_106, ↓nn_107, ↓nn_108, p_bs, p_rq0, p_rq1, p_rz0, p_rz1, p_us, p_un, p_uj, ↓reduceIte, hM'.2.2.2.2, p_lt, Nat.lt_irrefl]) ((0 : Int32), (0 : Int32)) rfl]
  rfl
theorem s_shift (hB' : p_B X') (hc' : t_RK c') : ∃ I'', q_lp (fun z' => B_X12_goDay_228 87 c' z'.1 z'.2) q_fu ((1 : Int32), (I', X')) = some (I'', X') ∧ (∀ x', x' ≠ c' → I'' x' = I' x') ∧ (∀ j', j' < 37 → I'' c' j' = I' c' j') ∧ (∀ j', j' < 177 → I'' c' (37 + j') = I' c' (40 + j')) := by
  obtain ⟨e', h1', J', rfl, h2'⟩ := p_lp (fun z' => B_X12_goDay_228 87 c' z'.1 z'.2) (fun i' z' => ∃ J', z' = (Int32.ofNat (i' + 1), (J', X')) ∧ (∀ x', x' ≠ c' → J' x' = I' x') ∧ (∀ j', j' < 37 → J' c' j' = I' c' j') ∧ (∀ j', j' < i' → J' c' (37 + j') = I' c' (40 + j')) ∧ (∀ j', 37 + i' ≤ j' → J' c' j' = I' c' j'))
    (fun e' => ∃ J', e' = (J', X') ∧ (∀ x', x' ≠ c' → J' x' = I' x') ∧ (∀ j', j' < 37 → J' c' j' = I' c' j') ∧ (∀ j', j' < 177 → J' c' (37 + j') = I' c' (40 + j'))) 177 (by
      rintro i' z' hi' ⟨J', rfl, j1', j2', j3', j4'⟩
      unfold B_X12_goDay_228
      rw [show (177 : Int32) = Int32.ofNat 177 from rfl]
      by_cases hlt' : i' < 177
      · left
        have hn' : ¬ 177 < i' + 1 := by omega
        simp (disch := omega) only [p_bs, p_rq0, p_rq1, p_rz0, p_rz1, p_us, p_un, p_uj, ↓reduceIte, p_mr hc' hB', p_lt, hn', p_ar]
        refine ⟨_, rfl, hlt', _, rfl, ?_, ?_, ?_, ?_⟩
        · intro x' hx'; rw [p_uc _ _ _ _ _ hx']; exact j1' x' hx'
        · intro j' hj'; rw [p_uj _ _ _ _ _ (by omega)]; exact j2' j' hj'
        · intro j' hj'
          by_cases e' : j' = i'
          · subst e'; rw [show 37 + j' = 36 + (j' + 1) by omega, p_us, show 36 + (j' + 1) + 3 = 40 + j' by omega]; exact j4' _ (by omega)
          · rw [p_uj _ _ _ _ _ (by omega)]; exact j3' j' (by omega)
        · intro j' hj'; rw [p_uj _ _ _ _ _ (by omega)]; exact j4' j' (by omega)
      · right
        have hi'' : i' = 177 := by omega
        subst hi''
        refine ⟨_, ?_, J', rfl, j1', j2', j3'⟩
        have hn' : 177 < 177 + 1 := by omega
        simp (disch := omega) only [p_bs, p_rq0, p_rq1, p_rz0, p_rz1, p_us, p_un, p_uj, ↓reduceIte, p_lt, hn']) 177 0 q_fu (1, (I', X')) (by omega) (by unfold q_fu; omega) ⟨I', rfl, fun _ _ => rfl, fun _ _ => rfl, fun j' hj' => absurd hj' (by omega), fun _ _ => rfl⟩
  exact ⟨J', h1', h2'⟩
theorem s_logW (hB' : p_B X') (hM' : t_HM H' I') (hW' : t_HW H') (hc' : t_RK c') (h102 : ∀ g', g' < 6 → I' 102 g' = t_pl H' s' g') (h37' : I' 87 37 = t_ds H' s') (hj' : ∀ g', g' < 6 → I' c' (4 * g' + 2) = r' (25 + g')) {n' : Nat} (hn' : n' < 60) (h36' : I' c' 36 = Int32.ofNat n') :
    ∃ I'', J_X12_goDay_263 87 c' (I', X') = some (t_B (t_fd H' s'), (I'', X')) ∧ (∀ x', x' ≠ c' → I'' x' = I' x') ∧ (∀ j', j' < 36 → I'' c' j' = I' c' j') ∧ (∀ j', j' < 3 * n' → I'' c' (37 + j') = I' c' (37 + j')) ∧ I'' c' 36 = Int32.ofNat (n' + 1) ∧ (∀ k', k' < 3 → I'' c' (37 + 3 * n' + k') = t_e3 (t_ds H' s') (t_B (t_fd H' s')) (t_sm r' (t_ng H')) k') := by
  have hng' : t_ng H' ≤ 6 := hW'.2.2.2.1
  have hcn' : c' ≠ 87 ∧ c' ≠ 102 ∧ c' ≠ 92 ∧ c' ≠ 94 ∧ c' ≠ 96 := by omega
  have hMc' : ∀ J' : p_I, (∀ x', x' ≠ c' → J' x' = I' x') → t_HM H' J' := fun J' hJ' => t_HMk hM' (hJ' _ hcn'.2.2.1.symm) (hJ' _ hcn'.2.2.2.1.symm) (hJ' _ hcn'.2.2.2.2.symm) (by rw [hJ' _ hcn'.1.symm]) (by rw [hJ' _ hcn'.1.symm])
  have f1' : ∀ J' : p_I, (∀ x', x' ≠ c' → J' x' = I' x') → F_X12_fedBits 87 (J', X') = some (t_B (t_fd H' s')) := fun J' hJ' => s_fedBits hB' (hMc' J' hJ') hW' (by rw [hJ' _ hcn'.2.1.symm]; exact h102)
  have f2' : ∀ J' : p_I, (∀ x', x' ≠ c' → J' x' = I' x') → (∀ j', j' < 36 → J' c' j' = I' c' j') → F_X12_joys 87 c' (J', X') = some (t_sm r' (t_ng H')) := fun J' hJ' h2' => s_joys hB' (hMc' J' hJ') hW' hc' (fun g' hg' => by rw [h2' _ (by omega)]; exact hj' g' hg')
  unfold J_X12_goDay_263
  simp (disch := omega) only [↓ce_87 hB', rf_87 hB', ↓nn_31, ↓nn_33, ↓nn_89, ↓nn_90, ↓nn_91, ↓nn_92, ↓nn_93, ↓nn_94, ↓nn_95, ↓nn_96, ↓nn_97, ↓nn_98, ↓nn_99, ↓nn_100, ↓nn_101, ↓nn_102, ↓nn_103, ↓nn_104, ↓nn_105, ↓nn_106, ↓nn_107, ↓nn_108, p_bs, p_rq0, p_rq1, p_rz0, p_rz1, p_us, p_un, p_uj, ↓reduceIte, p_mr hc' hB', h36', h37', p_ar]
  rw [f1' _ (fun x' hx' => by rw [p_uc _ _ _ _ _ hx'])]
  simp (disch := omega) only [↓ce_87 hB', rf_87 hB', ↓nn_31, ↓nn_33, ↓nn_89, ↓nn_90, ↓nn_91, ↓nn_92, ↓nn_93, ↓nn_94, ↓nn_95, ↓nn_96, ↓nn_97, ↓nn_98, ↓nn_99, ↓nn_100, ↓nn_101, ↓nn_102, ↓nn_103, ↓nn_104, ↓nn_105, ↓nn_106, ↓nn_107, ↓nn_108, p_bs, p_rq0, p_rq1, p_rz0, p_rz1, p_us, p_un, p_uj, ↓reduceIte, p_mr hc' hB']
  rw [f2' _ (fun x' hx' => by rw [p_uc _ _ _ _ _ hx', p_uc _ _ _ _ _ hx']) (fun j' hj' => by rw [p_uj _ _ _ _ _ (by omega), p_uj _ _ _ _ _ (by omega)])]
  simp (disch := omega) only [↓ce_87 hB', rf_87 hB', ↓nn_31, ↓nn_33, ↓nn_89, ↓nn_90, ↓nn_91, ↓nn_92, ↓nn_93, ↓nn_94, ↓nn_95, ↓nn_96, ↓nn_97, ↓nn_98, ↓nn_99, ↓nn_100, ↓nn_101, ↓nn_102, ↓nn_103, ↓nn_104, ↓nn_105, ↓nn_106, ↓nn_107, ↓nn_108, p_bs, p_rq0, p_rq1, p_rz0, p_rz1, p_us, p_un, p_uj, ↓reduceIte, p_mr hc' hB', h36', p_ar]
  rw [f1' _ (fun x' hx' => by rw [p_uc _ _ _ _ _ hx', p_uc _ _ _ _ _ hx', p_uc _ _ _ _ _ hx', p_uc _ _ _ _ _ hx'])]
  refine ⟨_, rfl, ?_, ?_, ?_, ?_, ?_⟩
  · intro x' hx'; rw [p_uc _ _ _ _ _ hx', p_uc _ _ _ _ _ hx', p_uc _ _ _ _ _ hx', p_uc _ _ _ _ _ hx']
  · intro j' hj'; simp (disch := omega) only [p_uj]
  · intro j' hj'; simp (disch := omega) only [p_uj]
  · rw [p_us]
  · intro k' hk'
    match k', hk' with
    | 0, _ => simp (disch := omega) only [p_uj, p_us, Nat.add_zero]; rfl
    | 1, _ => simp (disch := omega) only [p_uj, p_us]; rfl
    | 2, _ => simp (disch := omega) only [p_uj, p_us]; rfl
end PM'
