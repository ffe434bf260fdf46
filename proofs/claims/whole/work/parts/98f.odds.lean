/-! odds: the reference -/
section PO'
variable {H' : t_H} {L' : t_L}
theorem s_save (rec' : Nat → Nat → Int32 → Int32 → Int32 → Int32 → q_Mem → Option (Int32 × q_Mem)) {X' : p_X} {I' : p_I} (hB' : p_B X') {m' : Nat} (hm' : m' ≤ 4) (l1' l3' l4' : Int32) : ∃ J', q_lp (fun z' => B_X12_oddsFrom_45 rec' 87 l1' (Int32.ofNat m') l3' l4' z'.1 z'.2) q_fu ((0 : Int32), (I', X')) = some (J', X') ∧ (∀ c', c' ≠ 106 → J' c' = I' c') ∧ (∀ j', 37 * (m' + 1) ≤ j' → J' 106 j' = I' 106 j') ∧ (∀ j', j' < 37 → J' 106 (37 * m' + j') = I' 101 j') := by
  obtain ⟨z', h1', J', rfl, j1', j2', j3'⟩ := p_lp (fun z' => B_X12_oddsFrom_45 rec' 87 l1' (Int32.ofNat m') l3' l4' z'.1 z'.2) (fun i' z' => ∃ J', z' = (Int32.ofNat i', (J', X')) ∧ (∀ c', c' ≠ 106 → J' c' = I' c') ∧ (∀ j', 37 * (m' + 1) ≤ j' → J' 106 j' = I' 106 j') ∧ (∀ j', j' < i' → J' 106 (37 * m' + j') = I' 101 j'))
    (fun z' => ∃ J', z' = (J', X') ∧ (∀ c', c' ≠ 106 → J' c' = I' c') ∧ (∀ j', 37 * (m' + 1) ≤ j' → J' 106 j' = I' 106 j') ∧ (∀ j', j' < 37 → J' 106 (37 * m' + j') = I' 101 j')) 37 (by
      rintro i' z' hi' ⟨J', rfl, j1', j2', j3'⟩
      have hl' : (36 < Int32.ofNat i') = (36 < i') := p_lt 36 i' (by decide) (by omega)
      have hmul : (37 : Int32) * Int32.ofNat m' = Int32.ofNat (37 * m') := by rw [show (37 : Int32) = Int32.ofNat 37 from rfl, ← Int32.ofNat_mul]
      have hsum : Int32.ofNat (37 * m') + Int32.ofNat i' = Int32.ofNat (37 * m' + i') := (Int32.ofNat_add _ _).symm
      unfold B_X12_oddsFrom_45
      by_cases hlt' : 36 < i'
      · right
        have hi'' : i' = 37 := by omega
        subst hi''
        simp (disch := omega) only [p_bs, p_rq0, p_rq1, p_rz0, p_rz1, p_us, p_un, p_uj, ↓reduceIte, hl', hlt']
        exact ⟨_, rfl, J', rfl, j1', j2', j3'⟩
      · left
        simp (disch := omega) only [↓ce_87 hB', rf_87 hB', ↓ce_101 hB', ↓ce_106 hB', ↓nn_31, ↓nn_33, ↓nn_89, ↓nn_90, ↓nn_91, ↓nn_92, ↓nn_93, ↓nn_94, ↓nn_95, ↓nn_96, ↓nn_97, ↓nn_98, ↓nn_99, ↓nn_100, ↓nn_101, ↓nn_102, ↓nn_103, ↓nn_104, ↓nn_105, ↓nn_106, ↓nn_107, ↓nn_108, p_bs, p_rq0, p_rq1, p_rz0, p_rz1, p_us, p_un, p_uj, ↓reduceIte, hl', hlt', hmul, hsum, p_ar]
        refine ⟨_, rfl, by omega, _, rfl, fun c' hc' => by rw [p_uc _ _ _ _ _ hc']; exact j1' c' hc', fun j' hj' => by rw [p_uj _ _ _ _ _ (by omega)]; exact j2' j' hj', fun j' hj' => ?_⟩
        by_cases e' : j' = i'
        · subst e'; rw [p_us, j1' 101 (by decide)]
        · rw [p_uj _ _ _ _ _ (by omega)]; exact j3' j' (by omega)) 37 0 q_fu (0, (I', X')) (by omega) (by unfold q_fu; omega) ⟨I', rfl, fun _ _ => rfl, fun _ _ => rfl, fun j' hj' => absurd hj' (by omega)⟩
  exact ⟨J', h1', j1', j2', j3'⟩
theorem s_unsave (rec' : Nat → Nat → Int32 → Int32 → Int32 → Int32 → q_Mem → Option (Int32 × q_Mem)) {X' : p_X} {I' : p_I} (hB' : p_B X') {m' : Nat} (hm' : m' ≤ 4) (l1' l3' l5' l7' : Int32) : ∃ J', q_lp (fun z' => B_X12_oddsFrom_138 rec' 87 l1' (Int32.ofNat m') l3' l5' l7' z'.1 z'.2) q_fu ((0 : Int32), (I', X')) = some (J', X') ∧ (∀ c', c' ≠ 101 → J' c' = I' c') ∧ (∀ j', j' < 37 → J' 101 j' = I' 106 (37 * m' + j')) := by
  obtain ⟨z', h1', J', rfl, j1', j3'⟩ := p_lp (fun z' => B_X12_oddsFrom_138 rec' 87 l1' (Int32.ofNat m') l3' l5' l7' z'.1 z'.2) (fun i' z' => ∃ J', z' = (Int32.ofNat i', (J', X')) ∧ (∀ c', c' ≠ 101 → J' c' = I' c') ∧ (∀ j', j' < i' → J' 101 j' = I' 106 (37 * m' + j')))
    (fun z' => ∃ J', z' = (J', X') ∧ (∀ c', c' ≠ 101 → J' c' = I' c') ∧ (∀ j', j' < 37 → J' 101 j' = I' 106 (37 * m' + j'))) 37 (by
      rintro i' z' hi' ⟨J', rfl, j1', j3'⟩
      have hl' : (36 < Int32.ofNat i') = (36 < i') := p_lt 36 i' (by decide) (by omega)
      have hmul : (37 : Int32) * Int32.ofNat m' = Int32.ofNat (37 * m') := by rw [show (37 : Int32) = Int32.ofNat 37 from rfl, ← Int32.ofNat_mul]
      have hsum : Int32.ofNat (37 * m') + Int32.ofNat i' = Int32.ofNat (37 * m' + i') := (Int32.ofNat_add _ _).symm
      unfold B_X12_oddsFrom_138
      by_cases hlt' : 36 < i'
      · right
        have hi'' : i' = 37 := by omega
        subst hi''
        simp (disch := omega) only [p_bs, p_rq0, p_rq1, p_rz0, p_rz1, p_us, p_un, p_uj, ↓reduceIte, hl', hlt']
        exact ⟨_, rfl, J', rfl, j1', j3'⟩
      · left
        simp (disch := omega) only [↓ce_87 hB', rf_87 hB', ↓ce_101 hB', ↓ce_106 hB', ↓nn_31, ↓nn_33, ↓nn_89, ↓nn_90, ↓nn_91, ↓nn_92, ↓nn_93, ↓nn_94, ↓nn_95, ↓nn_96, ↓nn_97, ↓nn_98, ↓nn_99, ↓nn_100, ↓nn_101, ↓nn_102, ↓nn_103, ↓nn_104, ↓nn_105, ↓nn_106, ↓nn_107, ↓nn_108, p_bs, p_rq0, p_rq1, p_rz0, p_rz1, p_us, p_un, p_uj, ↓reduceIte, hl', hlt', hmul, hsum, p_ar]
        refine ⟨_, rfl, by omega, _, rfl, fun c' hc' => by rw [p_uc _ _ _ _ _ hc']; exact j1' c' hc', fun j' hj' => ?_⟩
        by_cases e' : j' = i'
        · subst e'; rw [p_us, j1' 106 (by decide)]
        · rw [p_uj _ _ _ _ _ (by omega)]; exact j3' j' (by omega)) 37 0 q_fu (0, (I', X')) (by omega) (by unfold q_fu; omega) ⟨I', rfl, fun _ _ => rfl, fun j' hj' => absurd hj' (by omega)⟩
  exact ⟨J', h1', j1', j3'⟩
theorem s_oddsM (hW' : t_HW H') {g' ch' : Nat} (hg' : g' < t_ng H') (hch' : ch' ≤ 100) : ∀ (m' fu' : Nat) (I' : p_I) (X' : p_X) (s' : Nat → Int32) (a' D' : Nat), m' ≤ 4 → m' < fu' → p_B X' → p_S I' → t_HM H' I' → t_LM L' X' I' → t_WF H' s' → t_RS s' (I' 101) → (∃ n', n' ≤ 60 ∧ I' 101 36 = Int32.ofNat n') → s' 0 = Int32.ofNat D' → D' + m' ≤ 1999 → a' ≤ 1000000000 → ∃ J' u', R_X12_oddsFrom fu' 0 87 (Int32.ofNat g') (Int32.ofNat m') (Int32.ofNat ch') (Int32.ofNat a') (I', X') = some (Int32.ofNat (yq_od H' L' g' ch' m' s' a'), (J', p_T X' u')) ∧ (∀ c', c' ≠ 87 → c' ≠ 91 → c' ≠ 102 → c' ≠ 101 → c' ≠ 106 → J' c' = I' c') ∧ (∀ j', ¬ t_m87 j' → J' 87 j' = I' 87 j') ∧ (∀ j', 37 * (m' + 1) ≤ j' → J' 106 j' = I' 106 j') := by
  intro m'
  have hnd' := hW'.2.1
  have hng' := hW'.2.2.2.1
  induction m' with
  | zero =>
    intro fu' I' X' s' a' D' hm' hfu' hB' hS0' hM' hL' hS' hR' h36' hD' hD'' ha'
    obtain ⟨fu', rfl⟩ : ∃ f', fu' = f' + 1 := ⟨fu' - 1, by omega⟩
    show ∃ J' u', F_X12_oddsFrom (R_X12_oddsFrom fu') 87 (Int32.ofNat g') (Int32.ofNat 0) (Int32.ofNat ch') (Int32.ofNat a') (I', X') = _ ∧ _
    have hth' := s_misThere (c' := 101) hB' hM' hW' hS' (.inr rfl) hR'.1 g' hg'
    unfold F_X12_oddsFrom
    cases ht' : t_th H' s' g'
    · refine ⟨I', X'.2.1 87 5, ?_, fun _ _ _ _ _ _ => rfl, fun _ _ => rfl, fun _ _ => rfl⟩
      have hfd' : t_fd H' s' g' = false := by
        cases hf' : t_fd H' s' g'
        · rfl
        · have := t_fdt hf'
          unfold t_tp at this
          rw [ht', Bool.and_false] at this
          cases this
      rw [ht'] at hth'
      rw [p_Ts, yq_od, hfd']
      simp (disch := omega) only [↓ce_87 hB', rf_87 hB', ↓nn_31, ↓nn_33, ↓nn_89, ↓nn_90, ↓nn_91, ↓nn_92, ↓nn_93, ↓nn_94, ↓nn_95, ↓nn_96, ↓nn_97, ↓nn_98, ↓nn_99, ↓nn_100, ↓nn_101, ↓nn_102, ↓nn_103, ↓nn_104, ↓nn_105, ↓nn_106, ↓nn_107, ↓nn_108, p_bs, p_rq0, p_rq1, p_rz0, p_rz1, p_us, p_un, p_uj, ↓reduceIte, show (Int32.ofNat 0 = 0) = True from by decide, hth', t_b0]
      rfl
    · obtain ⟨K', k1', k2', k3', k4', k5'⟩ := s_goTable (I' := I') (c' := 101) (s' := s') hB' hM' hW' hS' (.inr rfl) hR' hD' (by omega)
      have m5' := k4'.2.2.2.2 g' (by omega)
      have hpl' := t_plP hW' s' g'
      refine ⟨K', X'.2.1 87 5, ?_, fun c' z1' z2' z3' z4' z5' => k2' c' z1' z3' z4', fun j' hj' => k3' j' (by omega) (by omega) (by omega) (by omega), fun j' _ => by rw [k2' 106 (by decide) (by decide) (by decide)]⟩
      rw [ht'] at hth'
      rw [p_Ts, yq_od]
      simp (disch := omega) only [↓ce_87 hB', rf_87 hB', ↓ce_102 hB', ↓nn_31, ↓nn_33, ↓nn_89, ↓nn_90, ↓nn_91, ↓nn_92, ↓nn_93, ↓nn_94, ↓nn_95, ↓nn_96, ↓nn_97, ↓nn_98, ↓nn_99, ↓nn_100, ↓nn_101, ↓nn_102, ↓nn_103, ↓nn_104, ↓nn_105, ↓nn_106, ↓nn_107, ↓nn_108, p_bs, p_rq0, p_rq1, p_rz0, p_rz1, p_us, p_un, p_uj, ↓reduceIte, show (Int32.ofNat 0 = 0) = True from by decide, hth', t_b0, Bool.true_eq_false, k1', m5', hpl']
      cases t_fd H' s' g' <;> rfl
  | succ m' ih' =>
    intro fu' I' X' s' a' D' hm' hfu' hB' hS0' hM' hL' hS' hR' h36' hD' hD'' ha'
    obtain ⟨fu', rfl⟩ : ∃ f', fu' = f' + 1 := ⟨fu' - 1, by omega⟩
    show ∃ J' u', F_X12_oddsFrom (R_X12_oddsFrom fu') 87 (Int32.ofNat g') (Int32.ofNat (m' + 1)) (Int32.ofNat ch') (Int32.ofNat a') (I', X') = _ ∧ _
    obtain ⟨I1', a1', a2', a3', a4'⟩ := s_save (R_X12_oddsFrom fu') (I' := I') hB' (m' := m' + 1) (by omega) (Int32.ofNat g') (Int32.ofNat ch') (Int32.ofNat a')
    have hR1' : t_RS s' (I1' 101) := by rw [a2' 101 (by decide)]; exact hR'
    have hM1' : t_HM H' I1' := t_HMk hM' (a2' 92 (by decide)) (a2' 94 (by decide)) (a2' 96 (by decide)) (by rw [a2' 87 (by decide)]) (by rw [a2' 87 (by decide)])
    have hL1' : t_LM L' X' I1' := t_LMk hL' (by rw [a2' 87 (by decide)]) (a2' 89 (by decide)) (a2' 90 (by decide))
    have hS1' : p_S I1' := fun c' hc' => by rw [a2' c' (by omega)]; exact hS0' c' hc'
    have hci' := s_canBeIll (I' := I1') (H' := H') (c' := 101) hB' (.inr rfl) hR1' (-1) (-1)
    have hm0' : (Int32.ofNat (m' + 1) = 0) = False := by
      apply eq_false
      intro e'
      have := p_inj (show Int32.ofNat (m' + 1) = Int32.ofNat 0 from e') (by omega) (by omega)
      omega
    have hm1' : Int32.ofNat (m' + 1) - 1 = Int32.ofNat m' := p_osub (m' + 1) 1 (by omega)
    have hil' := yq_ilL H' hch' s' a'
    have hps' := t_psW (L' := L') hW' hS' hD' (by omega)
    have h102 : ∃ J' u', J_X12_oddsFrom_102 (R_X12_oddsFrom fu') 87 (Int32.ofNat g') (Int32.ofNat (m' + 1)) (Int32.ofNat ch') (Int32.ofNat a') (Int32.ofNat (yq_il H' ch' s' a')) (I1', X') = some (Int32.ofNat (yq_od H' L' g' ch' (m' + 1) s' a'), (J', p_T X' u')) ∧ (∀ c', c' ≠ 87 → c' ≠ 91 → c' ≠ 102 → c' ≠ 101 → c' ≠ 106 → J' c' = I' c') ∧ (∀ j', ¬ t_m87 j' → J' 87 j' = I' 87 j') ∧ (∀ j', 37 * (m' + 1 + 1) ≤ j' → J' 106 j' = I' 106 j') := by
      obtain ⟨q', q1', q2'⟩ := h36'
      obtain ⟨K1', u1', b1', b2', b3', b4', b5'⟩ := s_goDay (I' := I1') (s' := s') (c' := 101) (L' := L') hB' hS1' hM1' hW' hS' (.inr rfl) hR1' hL1' hD' (by omega) q1' (by rw [a2' 101 (by decide)]; exact q2')
      have hB1' := p_BT hB' u1'
      have f1' : ∀ c', c' ≠ 87 → c' ≠ 91 → c' ≠ 102 → c' ≠ 101 → c' ≠ 106 → K1' c' = I' c' := fun c' z1' z2' z3' z4' z5' => by rw [b2' c' z1' z2' z3' z4']; exact a2' c' z5'
      have f7' : ∀ j', ¬ t_m87 j' → K1' 87 j' = I' 87 j' := fun j' hj' => by rw [b3' j' (by omega) (by omega) (by omega), a2' 87 (by decide)]
      have hMk' : ∀ K' : p_I, (∀ c', c' ≠ 87 → c' ≠ 91 → c' ≠ 102 → c' ≠ 101 → c' ≠ 106 → K' c' = I' c') → (∀ j', ¬ t_m87 j' → K' 87 j' = I' 87 j') → t_HM H' K' := fun K' z1' z2' => t_HMk hM' (z1' 92 (by decide) (by decide) (by decide) (by decide) (by decide)) (z1' 94 (by decide) (by decide) (by decide) (by decide) (by decide)) (z1' 96 (by decide) (by decide) (by decide) (by decide) (by decide)) (z2' 26 (by omega)) (z2' 27 (by omega))
      have hLk' : ∀ (K' : p_I) (u' : Nat), (∀ c', c' ≠ 87 → c' ≠ 91 → c' ≠ 102 → c' ≠ 101 → c' ≠ 106 → K' c' = I' c') → (∀ j', ¬ t_m87 j' → K' 87 j' = I' 87 j') → t_LM L' (p_T X' u') K' := fun K' u' z1' z2' => t_LMk (t_LMT hL' u') (z2' 34 (by omega)) (z1' 89 (by decide) (by decide) (by decide) (by decide) (by decide)) (z1' 90 (by decide) (by decide) (by decide) (by decide) (by decide))
      have hSk' : ∀ K' : p_I, (∀ c', c' ≠ 87 → c' ≠ 91 → c' ≠ 102 → c' ≠ 101 → c' ≠ 106 → K' c' = I' c') → p_S K' := fun K' z1' c' hc' => by rw [z1' c' (by omega) (by omega) (by omega) (by omega) (by omega)]; exact hS0' c' hc'
      obtain ⟨K2', u2', c1', c2', c3', c4'⟩ := ih' fu' K1' (p_T X' u1') (t_ps H' L' s') (a' - yq_il H' ch' s' a') (D' + 1) (by omega) (by omega) hB1' (hSk' K1' f1') (hMk' K1' f1' f7') (hLk' K1' u1' f1' f7') hps'.1 b4' (t_LU36 b5') hps'.2 (by omega) (by omega)
      rw [p_TT] at c1'
      have hB2' := p_BT hB' u2'
      have g1' : ∀ c', c' ≠ 87 → c' ≠ 91 → c' ≠ 102 → c' ≠ 101 → c' ≠ 106 → K2' c' = I' c' := fun c' z1' z2' z3' z4' z5' => by rw [c2' c' z1' z2' z3' z4' z5']; exact f1' c' z1' z2' z3' z4' z5'
      have g7' : ∀ j', ¬ t_m87 j' → K2' 87 j' = I' 87 j' := fun j' hj' => by rw [c3' j' hj']; exact f7' j' hj'
      have g106 : ∀ j', 37 * (m' + 1) ≤ j' → K2' 106 j' = I1' 106 j' := fun j' hj' => by rw [c4' j' hj', b2' 106 (by decide) (by decide) (by decide) (by decide)]
      have hsub : Int32.ofNat a' - Int32.ofNat (yq_il H' ch' s' a') = Int32.ofNat (a' - yq_il H' ch' s' a') := p_osub a' _ hil'
      have hil0' : ((0 : Int32) < Int32.ofNat (yq_il H' ch' s' a')) = (0 < yq_il H' ch' s' a') := p_lt 0 _ (by decide) (by omega)
      unfold J_X12_oddsFrom_102
      by_cases hp' : 0 < yq_il H' ch' s' a'
      · have hcan : t_can H' s' 2 (-1) (-1) = true := by
          cases hc' : t_can H' s' 2 (-1) (-1)
          · unfold yq_il at hp'
            rw [hc', if_neg (by decide)] at hp'
            omega
          · rfl
        obtain ⟨K3', d1', d2', d3'⟩ := s_unsave (R_X12_oddsFrom fu') (I' := K2') hB2' (m' := m' + 1) (by omega) (Int32.ofNat g') (Int32.ofNat ch') (Int32.ofNat (yq_il H' ch' s' a')) (Int32.ofNat (yq_od H' L' g' ch' m' (t_ps H' L' s') (a' - yq_il H' ch' s' a')))
        have d3'' : ∀ j', j' < 37 → K3' 101 j' = I' 101 j' := fun j' hj' => by rw [d3' j' hj', g106 _ (by omega)]; exact a4' j' hj'
        have hR3' : t_RS s' (K3' 101) := t_RSk hR' (fun j' hj' => d3'' j' (by omega))
        have h32' : K3' 101 32 = s' 1 := hR3'.1.2.1
        have f4' : ∀ c', c' ≠ 101 → q_u2 K3' 101 32 (s' 1 + 1) c' = K3' c' := fun c' hc' => p_uc _ _ _ _ _ hc'
        have e4' : q_u2 K3' 101 32 (s' 1 + 1) 101 = va_up (K3' 101) 32 (s' 1 + 1) := p_ur _ _ _ _
        generalize hK4' : q_u2 K3' 101 32 (s' 1 + 1) = K4' at f4' e4'
        have hR4' : t_RS (va_up s' 1 (s' 1 + 1)) (K4' 101) := by rw [e4']; exact t_RSu1 hR3' _
        have h1' : ∀ c', c' ≠ 87 → c' ≠ 91 → c' ≠ 102 → c' ≠ 101 → c' ≠ 106 → K4' c' = I' c' := fun c' z1' z2' z3' z4' z5' => by rw [f4' c' z4', d2' c' z4']; exact g1' c' z1' z2' z3' z4' z5'
        have h7' : ∀ j', ¬ t_m87 j' → K4' 87 j' = I' 87 j' := fun j' hj' => by rw [f4' 87 (by decide), d2' 87 (by decide)]; exact g7' j' hj'
        have hSi' := yq_illW hS' hcan
        have h36'' : K4' 101 36 = Int32.ofNat q' := by rw [e4', p_vn _ _ _ _ (by omega), d3'' 36 (by omega)]; exact q2'
        obtain ⟨K5', u5', r1', r2', r3', r4', r5'⟩ := s_goDay (X' := p_T X' u2') (I' := K4') (s' := va_up s' 1 (s' 1 + 1)) (c' := 101) (L' := L') hB2' (hSk' K4' h1') (hMk' K4' h1' h7') hW' hSi' (.inr rfl) hR4' (hLk' K4' u2' h1' h7') (D' := D') (by rw [p_vn _ _ _ _ (by omega)]; exact hD') (by omega) q1' h36''
        rw [p_TT] at r1'
        have hB5' := p_BT hB' u5'
        have l1' : ∀ c', c' ≠ 87 → c' ≠ 91 → c' ≠ 102 → c' ≠ 101 → c' ≠ 106 → K5' c' = I' c' := fun c' z1' z2' z3' z4' z5' => by rw [r2' c' z1' z2' z3' z4']; exact h1' c' z1' z2' z3' z4' z5'
        have l7' : ∀ j', ¬ t_m87 j' → K5' 87 j' = I' 87 j' := fun j' hj' => by rw [r3' j' (by omega) (by omega) (by omega)]; exact h7' j' hj'
        have hpsi := t_psW (L' := L') hW' hSi' (D' := D') (by rw [p_vn _ _ _ _ (by omega)]; exact hD') (by omega)
        obtain ⟨K6', u6', s1', s2', s3', s4'⟩ := ih' fu' K5' (p_T X' u5') (t_ps H' L' (va_up s' 1 (s' 1 + 1))) (yq_il H' ch' s' a') (D' + 1) (by omega) (by omega) hB5' (hSk' K5' l1') (hMk' K5' l1' l7') (hLk' K5' u5' l1' l7') hpsi.1 r4' (t_LU36 r5') hpsi.2 (by omega) (by omega)
        rw [p_TT] at s1'
        refine ⟨K6', u6', ?_, fun c' z1' z2' z3' z4' z5' => by rw [s2' c' z1' z2' z3' z4' z5']; exact l1' c' z1' z2' z3' z4' z5', fun j' hj' => by rw [s3' j' hj']; exact l7' j' hj', fun j' hj' => ?_⟩
        · simp (disch := omega) only [↓ce_87 hB', rf_87 hB', ↓nn_31, ↓nn_33, ↓nn_89, ↓nn_90, ↓nn_91, ↓nn_92, ↓nn_93, ↓nn_94, ↓nn_95, ↓nn_96, ↓nn_97, ↓nn_98, ↓nn_99, ↓nn_100, ↓nn_101, ↓nn_102, ↓nn_103, ↓nn_104, ↓nn_105, ↓nn_106, ↓nn_107, ↓nn_108, p_bs, p_rq0, p_rq1, p_rz0, p_rz1, p_us, p_un, p_uj, ↓reduceIte, b1']
          have hB' := hB1'
          simp (disch := omega) only [↓ce_87 hB', rf_87 hB', ↓nn_31, ↓nn_33, ↓nn_89, ↓nn_90, ↓nn_91, ↓nn_92, ↓nn_93, ↓nn_94, ↓nn_95, ↓nn_96, ↓nn_97, ↓nn_98, ↓nn_99, ↓nn_100, ↓nn_101, ↓nn_102, ↓nn_103, ↓nn_104, ↓nn_105, ↓nn_106, ↓nn_107, ↓nn_108, p_bs, p_rq0, p_rq1, p_rz0, p_rz1, p_us, p_un, p_uj, ↓reduceIte, hm1', hsub, c1', hil0', hp', d1']
          have hB' := hB2'
          simp (disch := omega) only [↓ce_87 hB', rf_87 hB', ↓nn_31, ↓nn_33, ↓nn_89, ↓nn_90, ↓nn_91, ↓nn_92, ↓nn_93, ↓nn_94, ↓nn_95, ↓nn_96, ↓nn_97, ↓nn_98, ↓nn_99, ↓nn_100, ↓nn_101, ↓nn_102, ↓nn_103, ↓nn_104, ↓nn_105, ↓nn_106, ↓nn_107, ↓nn_108, p_bs, p_rq0, p_rq1, p_rz0, p_rz1, p_us, p_un, p_uj, ↓reduceIte, p_mr (show t_RK 101 from .inr rfl) hB2', h32', hK4', r1']
          have hB' := hB5'
          simp (disch := omega) only [↓ce_87 hB', rf_87 hB', ↓nn_31, ↓nn_33, ↓nn_89, ↓nn_90, ↓nn_91, ↓nn_92, ↓nn_93, ↓nn_94, ↓nn_95, ↓nn_96, ↓nn_97, ↓nn_98, ↓nn_99, ↓nn_100, ↓nn_101, ↓nn_102, ↓nn_103, ↓nn_104, ↓nn_105, ↓nn_106, ↓nn_107, ↓nn_108, p_bs, p_rq0, p_rq1, p_rz0, p_rz1, p_us, p_un, p_uj, ↓reduceIte, hm1', s1']
          rw [← Int32.ofNat_add]
          rfl
        · rw [s4' j' (by omega), r2' 106 (by decide) (by decide) (by decide) (by decide), f4' 106 (by decide), d2' 106 (by decide), g106 j' (by omega)]
          exact a3' j' (by omega)
      · have hz' : yq_il H' ch' s' a' = 0 := by omega
        refine ⟨K2', u2', ?_, g1', g7', fun j' hj' => by rw [g106 j' (by omega)]; exact a3' j' (by omega)⟩
        simp (disch := omega) only [↓ce_87 hB', rf_87 hB', ↓nn_31, ↓nn_33, ↓nn_89, ↓nn_90, ↓nn_91, ↓nn_92, ↓nn_93, ↓nn_94, ↓nn_95, ↓nn_96, ↓nn_97, ↓nn_98, ↓nn_99, ↓nn_100, ↓nn_101, ↓nn_102, ↓nn_103, ↓nn_104, ↓nn_105, ↓nn_106, ↓nn_107, ↓nn_108, p_bs, p_rq0, p_rq1, p_rz0, p_rz1, p_us, p_un, p_uj, ↓reduceIte, b1']
        have hB' := hB1'
        simp (disch := omega) only [↓ce_87 hB', rf_87 hB', ↓nn_31, ↓nn_33, ↓nn_89, ↓nn_90, ↓nn_91, ↓nn_92, ↓nn_93, ↓nn_94, ↓nn_95, ↓nn_96, ↓nn_97, ↓nn_98, ↓nn_99, ↓nn_100, ↓nn_101, ↓nn_102, ↓nn_103, ↓nn_104, ↓nn_105, ↓nn_106, ↓nn_107, ↓nn_108, p_bs, p_rq0, p_rq1, p_rz0, p_rz1, p_us, p_un, p_uj, ↓reduceIte, hm1', hsub, c1', hil0', hp']
        rw [yq_od, hz', yq_od0, Nat.add_zero]
    obtain ⟨J', u', e1', e2'⟩ := h102
    refine ⟨J', u', ?_, e2'⟩
    unfold F_X12_oddsFrom
    cases hcan : t_can H' s' 2 (-1) (-1)
    · rw [hcan] at hci'
      have hz' : yq_il H' ch' s' a' = 0 := by unfold yq_il; rw [hcan, if_neg (by decide)]
      rw [hz'] at e1'
      have e1'' : J_X12_oddsFrom_102 (R_X12_oddsFrom fu') 87 (Int32.ofNat g') (Int32.ofNat (m' + 1)) (Int32.ofNat ch') (Int32.ofNat a') 0 (I1', X') = _ := e1'
      simp (disch := omega) only [↓ce_87 hB', rf_87 hB', ↓nn_31, ↓nn_33, ↓nn_89, ↓nn_90, ↓nn_91, ↓nn_92, ↓nn_93, ↓nn_94, ↓nn_95, ↓nn_96, ↓nn_97, ↓nn_98, ↓nn_99, ↓nn_100, ↓nn_101, ↓nn_102, ↓nn_103, ↓nn_104, ↓nn_105, ↓nn_106, ↓nn_107, ↓nn_108, p_bs, p_rq0, p_rq1, p_rz0, p_rz1, p_us, p_un, p_uj, ↓reduceIte, hm0', a1', hci', t_b0, e1'']
    · rw [hcan] at hci'
      have hz' : yq_il H' ch' s' a' = a' * ch' / 100 := by unfold yq_il; rw [hcan, if_pos rfl]
      have hach : a' * ch' ≤ 1000000000 * 100 := Nat.mul_le_mul ha' hch'
      have ed' : ∀ f' : Int64 → Option (Int32 × q_Mem), q_dvl ((Int32.ofNat a').toInt64 * (Int32.ofNat ch').toInt64) 100 f' = f' (Int64.ofNat (a' * ch' / 100)) := fun f' => by
        unfold q_dvl
        rw [if_neg (by decide), p_o64 ch' (by omega), p_o64 a' (by omega), ← Int64.ofNat_mul, show (100 : Int64) = Int64.ofNat 100 from rfl, p_d64 _ 100 (by omega) (by decide)]
      have e32' : (Int64.ofNat (a' * ch' / 100)).toInt32 = Int32.ofNat (a' * ch' / 100) := Int64.toInt32_ofNat'
      rw [hz'] at e1'
      simp (disch := omega) only [↓ce_87 hB', rf_87 hB', ↓nn_31, ↓nn_33, ↓nn_89, ↓nn_90, ↓nn_91, ↓nn_92, ↓nn_93, ↓nn_94, ↓nn_95, ↓nn_96, ↓nn_97, ↓nn_98, ↓nn_99, ↓nn_100, ↓nn_101, ↓nn_102, ↓nn_103, ↓nn_104, ↓nn_105, ↓nn_106, ↓nn_107, ↓nn_108, p_bs, p_rq0, p_rq1, p_rz0, p_rz1, p_us, p_un, p_uj, ↓reduceIte, hm0', a1', hci', t_b0, Bool.true_eq_false, ed', e32', e1']
end PO'
section PO'
variable {A' : v_A} {X' : p_X} {I' : p_I}
theorem m_odds (h' : v_V A' I' X') (l' l2' l3' : Int32) : ∃ r' I1' J' X1', F_X11_odds 36 l' l2' l3' (I', X') = some (r', (I1', X')) ∧ F_X12_odds 87 l' l2' l3' (I1', X') = some (r', (J', X1')) ∧ v_V A' J' X1' := by
  have hB' := h'.1
  obtain ⟨L', hLC', hLM'⟩ := v_law h'
  have hsc' := p_scN hLC'
  have hH' := h'.2.2.2.1
  have hg' := s_hasGuest hB' hH'.2.1 l'
  have hg'' := s_isGuest hB' (v_thr h').2.2.2.1.2.2.1 l'
  have hng6' : t_ng A'.1 ≤ 6 := hH'.2.1.2.2.2.2.2.2.2
  have hin2' : ∀ M' : q_Mem, F_X12_isIn l2'.toInt64 0 4 M' = some (t_b (t_inr l2' 5)) := fun M' => s_isInT l2' 4 (by decide) 0 4 rfl rfl M'
  have hin3' : ∀ M' : q_Mem, F_X12_isIn l3'.toInt64 0 100 M' = some (t_b (t_inr l3' 101)) := fun M' => s_isInT l3' 100 (by decide) 0 100 rfl rfl M'
  cases hr' : t_inr l' (t_ng A'.1)
  · refine ⟨-1, I', _, X', ?_, ?_, v_thr h'⟩
    · unfold F_X11_odds
      simp (disch := omega) only [↓ce_36 hB', rf_36 hB', ↓ce_39 hB', rf_39 hB', ↓nn_38, ↓nn_40, ↓nn_41, ↓nn_42, ↓nn_43, ↓nn_44, ↓nn_45, ↓nn_50, ↓nn_52, ↓nn_53, ↓nn_54, ↓nn_56, ↓nn_58, ↓nn_64, ↓nn_67, ↓nn_68, ↓nn_84, p_bs, p_rq0, p_rq1, p_rz0, p_rz1, p_us, p_un, p_uj, ↓reduceIte, hg', hr', t_b0]
    · unfold F_X12_odds
      simp (disch := omega) only [↓ce_87 hB', rf_87 hB', ↓nn_31, ↓nn_33, ↓nn_89, ↓nn_90, ↓nn_91, ↓nn_92, ↓nn_93, ↓nn_94, ↓nn_95, ↓nn_96, ↓nn_97, ↓nn_98, ↓nn_99, ↓nn_100, ↓nn_101, ↓nn_102, ↓nn_103, ↓nn_104, ↓nn_105, ↓nn_106, ↓nn_107, ↓nn_108, p_bs, p_rq0, p_rq1, p_rz0, p_rz1, p_us, p_un, p_uj, ↓reduceIte, hg'', hr', t_b0]
  · cases hr2' : t_inr l2' 5
    · have key' : ∀ o' : Option (Int32 × q_Mem), (if l2' < 0 then some ((-1 : Int32), (I', X')) else if 4 < l2' then some ((-1 : Int32), (I', X')) else o') = some (-1, (I', X')) := fun o' => by
        rw [t_if20 l2' 4 4 (by decide) rfl, hr2']; simp
      refine ⟨-1, I', _, X', ?_, ?_, v_thr h'⟩
      · unfold F_X11_odds
        simp (disch := omega) only [↓ce_36 hB', rf_36 hB', ↓ce_39 hB', rf_39 hB', ↓nn_38, ↓nn_40, ↓nn_41, ↓nn_42, ↓nn_43, ↓nn_44, ↓nn_45, ↓nn_50, ↓nn_52, ↓nn_53, ↓nn_54, ↓nn_56, ↓nn_58, ↓nn_64, ↓nn_67, ↓nn_68, ↓nn_84, p_bs, p_rq0, p_rq1, p_rz0, p_rz1, p_us, p_un, p_uj, ↓reduceIte, hg', hr', t_b0, Bool.true_eq_false]
        exact key' _
      · unfold F_X12_odds
        simp (disch := omega) only [↓ce_87 hB', rf_87 hB', ↓nn_31, ↓nn_33, ↓nn_89, ↓nn_90, ↓nn_91, ↓nn_92, ↓nn_93, ↓nn_94, ↓nn_95, ↓nn_96, ↓nn_97, ↓nn_98, ↓nn_99, ↓nn_100, ↓nn_101, ↓nn_102, ↓nn_103, ↓nn_104, ↓nn_105, ↓nn_106, ↓nn_107, ↓nn_108, p_bs, p_rq0, p_rq1, p_rz0, p_rz1, p_us, p_un, p_uj, ↓reduceIte, hg'', hr', hin2', hr2', t_b0, Bool.true_eq_false]
    · obtain ⟨n', hn', rfl⟩ := t_inrE (by decide) hr2'
      have hn0' : (Int32.ofNat n' < 0) = False := by
        rw [show (0 : Int32) = Int32.ofNat 0 from rfl, p_lt n' 0 (by omega) (by omega)]
        simp
      have hn4' : (4 < Int32.ofNat n') = False := by
        rw [show (4 : Int32) = Int32.ofNat 4 from rfl, p_lt 4 n' (by omega) (by omega)]
        apply eq_false
        omega
      cases hr3' : t_inr l3' 101
      · have key' : ∀ o' : Option (Int32 × q_Mem), (if l3' < 0 then some ((-1 : Int32), (I', X')) else if 100 < l3' then some ((-1 : Int32), (I', X')) else o') = some (-1, (I', X')) := fun o' => by
          rw [t_if20 l3' 100 100 (by decide) rfl, hr3']; simp
        refine ⟨-1, I', _, X', ?_, ?_, v_thr h'⟩
        · unfold F_X11_odds
          simp (disch := omega) only [↓ce_36 hB', rf_36 hB', ↓ce_39 hB', rf_39 hB', ↓nn_38, ↓nn_40, ↓nn_41, ↓nn_42, ↓nn_43, ↓nn_44, ↓nn_45, ↓nn_50, ↓nn_52, ↓nn_53, ↓nn_54, ↓nn_56, ↓nn_58, ↓nn_64, ↓nn_67, ↓nn_68, ↓nn_84, p_bs, p_rq0, p_rq1, p_rz0, p_rz1, p_us, p_un, p_uj, ↓reduceIte, hg', hr', t_b0, Bool.true_eq_false, hn0', hn4']
          exact key' _
        · unfold F_X12_odds
          simp (disch := omega) only [↓ce_87 hB', rf_87 hB', ↓nn_31, ↓nn_33, ↓nn_89, ↓nn_90, ↓nn_91, ↓nn_92, ↓nn_93, ↓nn_94, ↓nn_95, ↓nn_96, ↓nn_97, ↓nn_98, ↓nn_99, ↓nn_100, ↓nn_101, ↓nn_102, ↓nn_103, ↓nn_104, ↓nn_105, ↓nn_106, ↓nn_107, ↓nn_108, p_bs, p_rq0, p_rq1, p_rz0, p_rz1, p_us, p_un, p_uj, ↓reduceIte, hg'', hr', hin2', hr2', hin3', hr3', t_b0, Bool.true_eq_false]
      · obtain ⟨ch', hch', rfl⟩ := t_inrE (by decide) hr3'
        have hc0' : (Int32.ofNat ch' < 0) = False := by
          rw [show (0 : Int32) = Int32.ofNat 0 from rfl, p_lt ch' 0 (by omega) (by omega)]
          simp
        have hc100 : (100 < Int32.ofNat ch') = False := by
          rw [show (100 : Int32) = Int32.ofNat 100 from rfl, p_lt 100 ch' (by omega) (by omega)]
          apply eq_false
          omega
        obtain ⟨g', hgl', rfl⟩ := t_inrE (by omega) hr'
        have hz' : A'.2.1 = true := by
          cases hz' : A'.2.1
          · have := (v_zf h' hz').2; omega
          · rfl
        have hHW' := hH'.2.2.2.1 hz'
        obtain ⟨w1', w2', w3', w4', w5', w6'⟩ := h'.2.2.2.2.1.1 hz'
        obtain ⟨J1', c1', c2', c3'⟩ := s_copyFrom (I' := I') (k1' := 73) (k2' := 53) hB' (by omega) (by omega)
        have c2'' : ∀ c', c' ≠ 74 → J1' c' = I' c' := c2'
        have c3'' : ∀ j', j' < 31 → J1' 74 j' = I' 54 j' := c3'
        obtain ⟨I1', d1', d2'⟩ := s_parts (X' := X') (L' := L') (n' := n') (g' := g') (ch' := ch') hB' hHW' (by omega) (by omega) (by omega) n' 0 60 J1' (J1' 74) 1000000000 A'.2.2.1 (by omega) (by omega) (t_HIk hH'.2.1 (fun c' h1' h2' => c2'' c' (by omega))) (t_LCk hLC' (fun c' h1' h2' => c2'' c' (by omega))) (fun j' _ => rfl) (t_WFa w1' c3'') (by rw [c3'' 0 (by decide)]; exact w3') (by omega) (by omega)
        have d1'' : R_X2_partsFed 60 0 67 0 (Int32.ofNat g') (Int32.ofNat n') (Int32.ofNat ch') 1000000000 (J1', X') = some (Int64.ofNat (yq_od A'.1 L' g' ch' n' (J1' 74) 1000000000), (I1', X')) := d1'
        generalize hs' : J1' 74 = s' at c3'' d1''
        have fs' : ∀ c', c' ≠ 63 → c' ≠ 64 → c' ≠ 65 → c' ≠ p_sc X' → c' ≠ 67 → c' ≠ 74 → c' ≠ 76 → c' ≠ 78 → c' ≠ 80 → c' ≠ 82 → I1' c' = I' c' := fun c' z1' z2' z3' z4' z5' z6' z7' z8' z9' z10' => by rw [d2' c' z1' z2' z3' z4' (by omega)]; exact c2'' c' z6'
        have f1' : ∀ c', 83 ≤ c' → c' < 109 → I1' c' = I' c' := fun c' z1' z2' => fs' c' (by omega) (by omega) (by omega) (by omega) (by omega) (by omega) (by omega) (by omega) (by omega) (by omega)
        obtain ⟨J2', g1', g2', g3', g4'⟩ := s_mcopy (I' := q_u2 I1' 87 0 0) hB'
        have k1' : ∀ c', 83 ≤ c' → c' < 109 → c' ≠ 87 → c' ≠ 101 → J2' c' = I' c' := fun c' z1' z2' z3' z4' => by rw [g2' c' z4', p_uc _ _ _ _ _ z3']; exact f1' c' z1' z2'
        have k87' : ∀ j', j' ≠ 0 → J2' 87 j' = I' 87 j' := fun j' hj' => by rw [g2' 87 (by decide), p_uj _ _ _ _ _ hj', f1' 87 (by decide) (by decide)]
        have hM1' : t_HM A'.1 (q_u2 I1' 87 0 0) := v_hm h' (by rw [p_uc _ _ _ _ _ (by decide), f1' 92 (by decide) (by decide)]) (by rw [p_uc _ _ _ _ _ (by decide), f1' 94 (by decide) (by decide)]) (by rw [p_uc _ _ _ _ _ (by decide), f1' 96 (by decide) (by decide)]) (by rw [p_uj _ _ _ _ _ (by decide), f1' 87 (by decide) (by decide)]) (by rw [p_uj _ _ _ _ _ (by decide), f1' 87 (by decide) (by decide)])
        have hM2' : t_HM A'.1 J2' := v_hm h' (k1' 92 (by decide) (by decide) (by decide) (by decide)) (k1' 94 (by decide) (by decide) (by decide) (by decide)) (k1' 96 (by decide) (by decide) (by decide) (by decide)) (k87' 26 (by decide)) (k87' 27 (by decide))
        have e101 : ∀ j', j' < 36 → J2' 101 j' = I' 100 j' := fun j' hj' => by rw [g3' j' hj', p_uc _ _ _ _ _ (by decide), f1' 100 (by decide) (by decide)]
        obtain ⟨J', u', n1', n2', n3', n4'⟩ := s_oddsM (H' := A'.1) (L' := L') (g' := g') (ch' := ch') hHW' hgl' (by omega) n' 60 J2' X' s' 1000000000 A'.2.2.1 (by omega) (by omega) hB' (fun c' hc' => by rw [g2' c' (by omega), p_uc _ _ _ _ _ (by omega), fs' c' (by omega) (by omega) (by omega) (by omega) (by omega) (by omega) (by omega) (by omega) (by omega) (by omega)]; exact h'.2.1 c' hc') hM2' (t_LMk hLM' (k87' 34 (by decide)) (k1' 89 (by decide) (by decide) (by decide) (by decide)) (k1' 90 (by decide) (by decide) (by decide) (by decide))) (t_WFa w1' c3'') (t_RSa w2' c3'' e101) ⟨0, by omega, g4'⟩ (by rw [c3'' 0 (by decide)]; exact w3') (by omega) (by omega)
        have n1'' : R_X12_oddsFrom 60 0 87 (Int32.ofNat g') (Int32.ofNat n') (Int32.ofNat ch') 1000000000 (J2', X') = _ := n1'
        have hg2' := s_isGuest hB' hM1' (Int32.ofNat g')
        have e32' : (Int64.ofNat (yq_od A'.1 L' g' ch' n' s' 1000000000)).toInt32 = Int32.ofNat (yq_od A'.1 L' g' ch' n' s' 1000000000) := Int64.toInt32_ofNat'
        refine ⟨Int32.ofNat (yq_od A'.1 L' g' ch' n' s' 1000000000), I1', J', p_T X' u', ?_, ?_, v_ask3 h' fs' (fun c' z1' z2' z3' z4' z5' => by rw [n2' c' z1' z2' z3' z4' z5', g2' c' z4', p_uc _ _ _ _ _ z1']) (fun j' z1' z2' => by rw [n3' j' z1', g2' 87 (by decide), p_uj _ _ _ _ _ z2'])⟩
        · unfold F_X11_odds F_X2_oddsOf
          have l0' : ∀ f' : Nat → Option (Int64 × q_Mem), q_lR (I', X') 5 70 0 f' = f' (X'.2.1 70 0) := fun f' => (ce_70 hB').1 I' 0 f' (by decide)
          simp (disch := omega) only [↓ce_36 hB', rf_36 hB', ↓ce_39 hB', rf_39 hB', ↓ce_53 hB', rf_53 hB', ↓ce_67 hB', rf_67 hB', ↓nn_38, ↓nn_40, ↓nn_41, ↓nn_42, ↓nn_43, ↓nn_44, ↓nn_45, ↓nn_50, ↓nn_52, ↓nn_53, ↓nn_54, ↓nn_55, ↓nn_56, ↓nn_58, ↓nn_64, ↓nn_67, ↓nn_68, ↓nn_69, ↓nn_71, ↓nn_72, ↓nn_73, ↓nn_84, p_bs, p_rq0, p_rq1, p_rz0, p_rz1, p_us, p_un, p_uj, ↓reduceIte, hg', hr', t_b0, Bool.true_eq_false, hn0', hn4', hc0', hc100, l0']
          simp (disch := omega) only [↓ce_70 hB', rf_70 hB', ↓ce_73 hB', rf_73 hB', ↓ce_67 hB', rf_67 hB', ↓nn_40, ↓nn_64, ↓nn_67, ↓nn_69, ↓nn_71, ↓nn_72, ↓nn_73, ↓nn_74, ↓nn_75, ↓nn_76, ↓nn_78, ↓nn_80, ↓nn_82, p_bs, p_rq0, p_rq1, p_rz0, p_rz1, p_us, p_un, p_uj, ↓reduceIte, c1', d1'', e32']
        · unfold F_X12_odds
          simp (disch := omega) only [↓ce_87 hB', rf_87 hB', ↓nn_31, ↓nn_33, ↓nn_89, ↓nn_90, ↓nn_91, ↓nn_92, ↓nn_93, ↓nn_94, ↓nn_95, ↓nn_96, ↓nn_97, ↓nn_98, ↓nn_99, ↓nn_100, ↓nn_101, ↓nn_102, ↓nn_103, ↓nn_104, ↓nn_105, ↓nn_106, ↓nn_107, ↓nn_108, p_bs, p_rq0, p_rq1, p_rz0, p_rz1, p_us, p_un, p_uj, ↓reduceIte, hg2', hr', hin2', hr2', hin3', hr3', t_b0, Bool.true_eq_false, g1', n1'']
end PO'
