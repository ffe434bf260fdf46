/-! what a house's numbers are; the order of coming -/
def t_cm (H' : t_H) (g' : Nat) : Nat := (t_hg H' (g' * 4)).toNatClampNeg
def t_pr (H' : t_H) (a' b' : Nat) : Prop := t_cm H' a' < t_cm H' b' ∨ (t_cm H' a' = t_cm H' b' ∧ a' < b')
def t_HW (H' : t_H) : Prop := 0 < t_nd H' ∧ t_nd H' ≤ 5 ∧ 0 < t_ng H' ∧ t_ng H' ≤ 6 ∧ (∀ i', i' < t_ng H' → t_ho H' i' < t_ng H') ∧ (∀ i' j', i' < j' → j' < t_ng H' → t_pr H' (t_ho H' i') (t_ho H' j')) ∧ (∀ g', g' < t_ng H' → ∃ i', i' < t_ng H' ∧ t_ho H' i' = g') ∧
  (∀ g', g' < t_ng H' → ∃ c', t_hg H' (g' * 4) = Int32.ofNat c' ∧ c' ≤ 20) ∧ (∀ g', g' < t_ng H' → ∃ c', t_hg H' (g' * 4 + 3) = Int32.ofNat c' ∧ c' ≤ 9) ∧ (∀ d', d' < t_nd H' → ∃ c', t_hd H' (d' * 3) = Int32.ofNat c' ∧ c' ≤ 20) ∧ (∃ c', t_hr H' 1 = Int32.ofNat c' ∧ c' ≤ 9) ∧ (∀ d', d' < t_nd H' → ∃ c', t_hd H' (d' * 3 + 1) = Int32.ofNat c' ∧ c' ≤ 9)
theorem t_hoI {H' : t_H} (hW' : t_HW H') {i' j' : Nat} (hi' : i' < t_ng H') (hj' : j' < t_ng H') (e' : t_ho H' i' = t_ho H' j') : i' = j' := by
  have hs' := hW'.2.2.2.2.2.1
  rcases Nat.lt_trichotomy i' j' with h' | h' | h'
  · have := hs' i' j' h' hj'
    rw [e'] at this
    rcases this with this | this <;> omega
  · exact h'
  · have := hs' j' i' h' hi'
    rw [e'] at this
    rcases this with this | this <;> omega
theorem t_qL (H' : t_H) (s' : Nat → Int32) (i' : Nat) : (t_q H' s' i').1 ≤ (t_sv H' s').toNatClampNeg := by
  induction i' with
  | zero => exact Nat.le_refl _
  | succ i' ih' =>
    rw [t_q]
    split
    · show (t_q H' s' i').1 - 1 ≤ _
      omega
    · exact ih'
theorem t_qM (H' : t_H) (s' : Nat → Int32) (i' x' : Nat) (h' : (t_q H' s' i').2 x' = true) : (∃ j', j' < i' ∧ t_ho H' j' = x') ∧ t_tp H' s' x' = true := by
  induction i' with
  | zero => cases h'
  | succ i' ih' =>
    rw [t_q] at h'
    split at h'
    · rename_i hc'
      simp only [Bool.or_eq_true, beq_iff_eq] at h'
      rcases h' with h' | h'
      · obtain ⟨⟨j', h1', h2'⟩, h3'⟩ := ih' h'
        exact ⟨⟨j', by omega, h2'⟩, h3'⟩
      · subst h'
        exact ⟨⟨i', by omega, rfl⟩, hc'.2⟩
    · obtain ⟨⟨j', h1', h2'⟩, h3'⟩ := ih' h'
      exact ⟨⟨j', by omega, h2'⟩, h3'⟩
theorem t_rL (H' : t_H) (s' : Nat → Int32) (i' : Nat) : (t_r H' s' i').1 ≤ (t_q H' s' (t_ng H')).1 := by
  induction i' with
  | zero => exact Nat.le_refl _
  | succ i' ih' =>
    rw [t_r]
    split
    · show (t_r H' s' i').1 - 1 ≤ _
      omega
    · exact ih'
theorem t_rM (H' : t_H) (s' : Nat → Int32) (i' x' : Nat) (h' : (t_r H' s' i').2 x' = true) : x' < i' := by
  induction i' with
  | zero => cases h'
  | succ i' ih' =>
    rw [t_r] at h'
    split at h'
    · simp only [Bool.or_eq_true, beq_iff_eq] at h'
      rcases h' with h' | h'
      · have := ih' h'; omega
      · omega
    · have := ih' h'; omega
theorem t_rS (H' : t_H) (s' : Nat → Int32) (i' m' : Nat) (h' : (t_r H' s' i').1 = 0) : t_r H' s' (i' + m') = t_r H' s' i' := by
  induction m' with
  | zero => rfl
  | succ m' ih' =>
    rw [← Nat.add_assoc, t_r, ih', h']
    simp
theorem p_dec (n' : Nat) (h' : 0 < n') : Int32.ofNat n' + (-1) = Int32.ofNat (n' - 1) := by
  have e' : Int32.ofNat n' = Int32.ofNat (n' - 1) + 1 := by
    rw [show n' = n' - 1 + 1 by omega, Int32.ofNat_add]
    rfl
  rw [e', Int32.add_assoc, show (1 : Int32) + (-1) = 0 from rfl, Int32.add_zero]
section PD'
variable {X' : p_X} {I' : p_I} {H' : t_H} {k' : Nat}
theorem s_feed1 (hB' : p_B X') (hH' : t_HI H' I') (hW' : t_HW H') (hk' : t_SK k') (hS' : t_WF H' (I' (k' + 1))) (h4' : I' 63 4 = t_B (t_tp H' (I' (k' + 1)))) (h10' : I' 63 10 = 0) :
    ∃ I'', q_lp (fun s' => B_X1_feedThose_12 63 k' s'.1 s'.2.1 s'.2.2) q_fu (t_sv H' (I' (k' + 1)), 0, (I', X')) = some (Int32.ofNat (t_q H' (I' (k' + 1)) (t_ng H')).1, (I'', X')) ∧ (∀ c', c' ≠ 63 → c' ≠ 64 → I'' c' = I' c') ∧ (∀ j', j' ≠ 10 → I'' 63 j' = I' 63 j') ∧ I'' 63 10 = t_B (t_fd H' (I' (k' + 1))) ∧ (∀ g', g' < t_ng H' → I'' 64 g' = t_b (t_fd H' (I' (k' + 1)) g')) := by
  have hng' : t_ng H' ≤ 6 := hH'.2.2.2.2.2.2.2
  obtain ⟨n', hn', hn6'⟩ := t_svN hS'
  have hnn' : (t_sv H' (I' (k' + 1))).toNatClampNeg = n' := by rw [hn', p_nat _ (by omega)]
  obtain ⟨e', h1', I'', rfl, h2'⟩ := p_lp (fun s' => B_X1_feedThose_12 63 k' s'.1 s'.2.1 s'.2.2) (fun i' s' => ∃ J', s' = (Int32.ofNat (t_q H' (I' (k' + 1)) i').1, Int32.ofNat i', (J', X')) ∧ (∀ c', c' ≠ 63 → c' ≠ 64 → J' c' = I' c') ∧ (∀ j', j' ≠ 10 → J' 63 j' = I' 63 j') ∧ J' 63 10 = t_B (t_q H' (I' (k' + 1)) i').2 ∧ (∀ j', j' < i' → J' 64 (t_ho H' j') = t_b ((t_q H' (I' (k' + 1)) i').2 (t_ho H' j'))))
    (fun e' => ∃ I'', e' = (Int32.ofNat (t_q H' (I' (k' + 1)) (t_ng H')).1, (I'', X')) ∧ (∀ c', c' ≠ 63 → c' ≠ 64 → I'' c' = I' c') ∧ (∀ j', j' ≠ 10 → I'' 63 j' = I' 63 j') ∧ I'' 63 10 = t_B (t_fd H' (I' (k' + 1))) ∧ (∀ g', g' < t_ng H' → I'' 64 g' = t_b (t_fd H' (I' (k' + 1)) g'))) (t_ng H') (by
      rintro i' s' hi' ⟨J', rfl, j1', j2', j3', j4'⟩
      have hH'' : t_HI H' J' := t_HIk hH' (fun c' h1' h2' => j1' c' (by omega) (by omega))
      have hng'' : J' 39 5 = Int32.ofNat (t_ng H') := hH''.2.2.2.2.2.1
      have hs' : J' (k' + 1) = I' (k' + 1) := j1' _ (by omega) (by omega)
      by_cases hlt' : i' < t_ng H'
      · left
        have ho' := (hH''.2.2.2.1 i' hlt').1
        have hol' := (hH''.2.2.2.1 i' hlt').2
        have hq' := t_qL H' (I' (k' + 1)) i'
        have hbit : t_bit (J' 63 4) (t_ho H' i') = t_tp H' (I' (k' + 1)) (t_ho H' i') := by rw [j2' 4 (by decide), h4', t_BA _ _ (by omega)]
        unfold B_X1_feedThose_12 J_X1_feedThose_54_12 J_X1_feedThose_55_12 J_X1_feedThose_73_12 J_X1_feedThose_95_12
        simp (disch := omega) only [↓ce_63 hB', rf_63 hB', ↓ce_39 hB', rf_39 hB', ↓ce_43 hB', ↓ce_64 hB', ↓nn_40, ↓nn_41, ↓nn_42, ↓nn_43, ↓nn_44, ↓nn_65, ↓nn_66, p_bs, p_rq0, p_rq1, p_rz0, p_rz1, p_us, p_un, p_uj, ↓reduceIte, hng'', p_lt, hlt', ho', p_cm, t_bitE, hbit, p_ar]
        by_cases hc' : 0 < (t_q H' (I' (k' + 1)) i').1 ∧ t_tp H' (I' (k' + 1)) (t_ho H' i') = true
        · have hq1' : t_q H' (I' (k' + 1)) (i' + 1) = ((t_q H' (I' (k' + 1)) i').1 - 1, fun x' => (t_q H' (I' (k' + 1)) i').2 x' || x' == t_ho H' i') := by rw [t_q, if_pos hc']
          refine ⟨_, by simp only [hc'.1, hc'.2, ↓reduceIte, Bool.true_eq_false, p_dec _ hc'.1, show ((1 : Int32) = 0) = False from by decide]; rfl, True.intro, _, by rw [hq1'], ?_, ?_, ?_, ?_⟩
          · intro c' h1' h2'; rw [p_uc _ _ _ _ _ h1', p_uc _ _ _ _ _ h2']; exact j1' c' h1' h2'
          · intro j' hj'; rw [p_uj _ _ _ _ _ hj', p_un _ _ _ _ _ _ (by decide)]; exact j2' j' hj'
          · rw [hq1', p_us, j3', t_BO _ _ (by omega)]
          · intro j' hj'
            rw [p_un _ _ _ _ _ _ (by decide), hq1']
            by_cases ej' : j' = i'
            · subst ej'; rw [p_us]; simp [t_b]
            · have : t_ho H' j' ≠ t_ho H' i' := fun e' => ej' (t_hoI hW' (by omega) hlt' e')
              rw [p_uj _ _ _ _ _ this, j4' j' (by omega)]
              show _ = t_b ((t_q H' (I' (k' + 1)) i').2 (t_ho H' j') || t_ho H' j' == t_ho H' i')
              rw [beq_false_of_ne this, Bool.or_false]
        · have hq1' : t_q H' (I' (k' + 1)) (i' + 1) = t_q H' (I' (k' + 1)) i' := by rw [t_q, if_neg hc']
          refine ⟨_, by
            by_cases hc1' : 0 < (t_q H' (I' (k' + 1)) i').1
            · have hc2' : t_tp H' (I' (k' + 1)) (t_ho H' i') = false := by
                cases hx' : t_tp H' (I' (k' + 1)) (t_ho H' i')
                · rfl
                · exact absurd ⟨hc1', hx'⟩ hc'
              simp only [hc1', hc2', ↓reduceIte]; rfl
            · simp only [hc1', ↓reduceIte], True.intro, _, by rw [hq1'], ?_, ?_, ?_, ?_⟩
          · intro c' h1' h2'; rw [p_uc _ _ _ _ _ h2']; exact j1' c' h1' h2'
          · intro j' hj'; rw [p_un _ _ _ _ _ _ (by decide)]; exact j2' j' hj'
          · rw [hq1', p_un _ _ _ _ _ _ (by decide), j3']
          · intro j' hj'
            rw [hq1']
            by_cases ej' : j' = i'
            · subst ej'
              rw [p_us]
              cases hx' : (t_q H' (I' (k' + 1)) j').2 (t_ho H' j')
              · rfl
              · obtain ⟨⟨j'', h1', h2'⟩, -⟩ := t_qM _ _ _ _ hx'
                exact absurd (t_hoI hW' (by omega) hlt' h2') (by omega)
            · have : t_ho H' j' ≠ t_ho H' i' := fun e' => ej' (t_hoI hW' (by omega) hlt' e')
              rw [p_uj _ _ _ _ _ this, j4' j' (by omega)]
      · right
        have hi'' : i' = t_ng H' := by omega
        subst hi''
        refine ⟨_, ?_, J', rfl, j1', j2', j3', fun g' hg' => ?_⟩
        · unfold B_X1_feedThose_12
          simp (disch := omega) only [↓ce_63 hB', rf_63 hB', ↓ce_39 hB', rf_39 hB', ↓nn_40, ↓nn_41, ↓nn_42, ↓nn_43, ↓nn_44, ↓nn_65, ↓nn_66, p_bs, p_rq0, p_rq1, p_rz0, p_rz1, p_us, p_un, p_uj, ↓reduceIte, hng'', p_lt, Nat.lt_irrefl]
        · obtain ⟨j', h1', rfl⟩ := hW'.2.2.2.2.2.2.1 g' hg'
          exact j4' j' h1') (t_ng H') 0 q_fu (t_sv H' (I' (k' + 1)), 0, (I', X')) (by omega) (by unfold q_fu; omega) ⟨I', by rw [t_q, hnn', ← hn']; rfl, fun _ _ _ => rfl, fun _ _ => rfl, by rw [h10']; exact (t_BZ (fun g' _ => rfl)).symm, fun j' hj' => absurd hj' (by omega)⟩
  exact ⟨I'', h1', h2'⟩
end PD'
