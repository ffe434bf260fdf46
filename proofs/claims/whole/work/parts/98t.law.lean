/-! text: a law -/
theorem t_lcP {cls' : List t_Cl} (h' : cls' ≠ []) : 0 < (t_lcode cls').length := by
  cases cls' with
  | nil => exact absurd rfl h'
  | cons c' l' =>
    have hgen : ∀ (l' : List t_Cl) (A' : List Int32), ∃ Z', l'.foldl t_lcA A' = A' ++ Z' := by
      intro l'
      induction l' with
      | nil => intro A'; exact ⟨[], by rw [List.append_nil]; rfl⟩
      | cons c' l' ihl' =>
        intro A'
        obtain ⟨Z', hZ'⟩ := ihl' (t_lcA A' c')
        refine ⟨t_cc A'.length c' ++ Z', ?_⟩
        show l'.foldl t_lcA (t_lcA A' c') = _
        rw [hZ']
        unfold t_lcA
        rw [List.append_assoc]
    obtain ⟨Z', hZ'⟩ := hgen l' (t_lcA [] c')
    show 0 < (l'.foldl t_lcA (t_lcA [] c')).length
    rw [hZ', List.length_append]
    have h1' : (t_lcA [] c').length = (t_cc 0 c').length := by
      unfold t_lcA
      rw [List.nil_append]; rfl
    rw [h1', t_ccL]
    split <;> exact Nat.lt_of_lt_of_le (Nat.succ_pos _) (Nat.le_add_right _ _)
section PT'
variable {X' : p_X} {I' : p_I}
theorem yq_push (X' : p_X) (I' : p_I) (h' : q_Sh) : ∃ I'' X'', q_push (I', X') h' = (I'', X'') ∧ (∀ c', c' ≠ X'.2.2.length → I'' c' = I' c') ∧ X''.2.2 = X'.2.2 ++ [h'] ∧ (∀ k' j', k' ≠ X'.2.2.length → X''.2.1 k' j' = X'.2.1 k' j') ∧ p_EX (fun _ _ => False) X' X'' := by
  refine ⟨va_up I' X'.2.2.length (fun _ => 0), (va_up X'.1 X'.2.2.length (fun _ => 0), va_up X'.2.1 X'.2.2.length (fun _ => 0), X'.2.2 ++ [h']), rfl, fun c' hc' => p_vuN _ _ _ _ hc', rfl, fun k' j' hk' => ?_, fun k' hk' => ?_, fun k' j' hk' _ => ?_⟩
  · show va_up X'.2.1 X'.2.2.length (fun _ => 0) k' j' = _
    rw [p_vuN _ _ _ _ hk']
  · show (X'.2.2 ++ [h'])[k']? = _
    rw [List.getElem?_append_left hk']
  · show va_up X'.2.1 X'.2.2.length (fun _ => 0) k' j' = _
    rw [p_vuN _ _ _ _ (by omega)]
theorem s_copyOf (hB' : p_B X') {len' : Nat} (h0' : 0 < len') (h1' : len' ≤ 240) : ∃ I'' X'', F_J7_copyOf_59c91 50 (Int32.ofNat len') (I', X') = some (X'.2.2.length + 1, (I'', X'')) ∧ (∀ c', c' ≠ X'.2.2.length → I'' c' = I' c') ∧ (∀ j', j' < len' → I'' X'.2.2.length j' = I' 50 j') ∧ X''.2.2 = X'.2.2 ++ [.inr (0, len')] ∧ (∀ k' j', k' ≠ X'.2.2.length → X''.2.1 k' j' = X'.2.1 k' j') := by
  have hN' := p_len hB'
  unfold F_J7_copyOf_59c91
  rw [p_al (sh_50 hB') (by decide)]
  by_cases e' : len' = 240
  · subst e'
    rw [if_pos rfl]
    unfold q_cln
    rw [p_ln (sh_50 hB'), if_pos ⟨by decide, Nat.le_refl _, sh_50 hB'⟩]
    obtain ⟨Ia', Xa', pa', a1', a2', a3', a4'⟩ := yq_push X' I' (.inr (0, 240))
    rw [pa']
    refine ⟨va_up Ia' X'.2.2.length (I' 50), Xa', rfl, fun c' hc' => by rw [p_vuN _ _ _ _ hc']; exact a1' c' hc', fun j' hj' => by rw [p_vuS], a2', a3'⟩
  · have hne' : ¬ Int32.ofNat len' = Int32.ofNat 240 := fun h' => e' (p_inj h' (by omega) (by omega))
    rw [if_neg hne']
    unfold q_nA
    rw [p_nat len' (by omega), if_neg (by
      rintro (h' | h')
      · exact p_nn len' (by omega) h'
      · omega)]
    obtain ⟨Ia', Xa', pa', a1', a2', a3', a4'⟩ := yq_push X' I' (.inr (0, len'))
    have hBa' : p_B Xa' := p_BE hB' a4' (fun _ _ h' => h')
    have hsN' : Xa'.2.2[X'.2.2.length]? = some (.inr (0, len')) := by
      rw [a2', List.getElem?_append_right (Nat.le_refl _), Nat.sub_self]
      rfl
    have hmn' : q_mn (Int32.ofNat 240) (Int32.ofNat len') = Int32.ofNat len' := by
      unfold q_mn
      have e' : (Int32.ofNat len' < Int32.ofNat 240) = (len' < 240) := p_lt len' 240 (by omega) (by omega)
      have e2' : (Int32.ofNat 240 < Int32.ofNat len') = (240 < len') := p_lt 240 len' (by omega) (by omega)
      simp only [e', e2']
      split
      · rfl
      · omega
    have hcp' : ∀ f' : q_Mem → Option (Nat × q_Mem), q_cp (Ia', Xa') 50 0 X'.2.2.length 0 (Int32.ofNat len') f' = f' (va_up Ia' X'.2.2.length (va_cpy (Ia' 50) (Ia' X'.2.2.length) 0 0 len'), Xa') := fun f' => s_cp (sh_50 hBa') hsN' (by decide) (by show 36 ≤ _; omega) 0 0 len' h0' (by omega) (by omega) (by decide) (by omega) f'
    show ∃ I'' X'', (q_al (q_push (I', X') (.inr (0, len'))) 50 fun v4' => q_cp (q_push (I', X') (.inr (0, len'))) 50 0 X'.2.2.length 0 (q_mn v4' (Int32.ofNat len')) fun M5' => some (X'.2.2.length + 1, M5')) = _ ∧ _
    rw [pa', p_al (sh_50 hBa') (by decide), hmn', hcp']
    refine ⟨_, Xa', rfl, fun c' hc' => by rw [p_ucp _ _ _ _ hc']; exact a1' c' hc', fun j' hj' => ?_, a2', a3'⟩
    rw [p_usp]
    unfold va_cpy
    rw [if_pos ⟨by omega, by omega⟩, a1' 50 (by omega)]
    congr 1
    omega
theorem s_initL {N' r' : Nat} (hN' : q_NS ≤ N') (hs' : X'.2.2[N']? = some (.inl 4)) : ∃ I'' X'', F_X4_init N' r' (I', X') = some ((), (I'', X'')) ∧ (∀ c', c' ≠ X'.2.2.length → I'' c' = I' c') ∧ X''.2.2 = X'.2.2 ++ [.inr (0, 32)] ∧ (∀ k' j', k' ≠ N' → k' ≠ X'.2.2.length → X''.2.1 k' j' = X'.2.1 k' j') ∧ X''.2.1 N' 0 = r' + 1 ∧ X''.2.1 N' 1 = X'.2.2.length + 1 := by
  have hNl' := p_gl hs'
  unfold F_X4_init q_nA
  rw [if_neg (by decide)]
  have e32' : ((32 : Int32).toNatClampNeg) = 32 := by decide
  rw [e32']
  obtain ⟨Ia', Xa', pa', a1', a2', a3', a4'⟩ := yq_push X' I' (.inr (0, 32))
  have hsa' : Xa'.2.2[N']? = some (.inl 4) := by rw [a4'.1 N' hNl']; exact hs'
  have hsb' : ∀ v' : Nat, (show p_X from (Xa'.1, q_u2 Xa'.2.1 N' 1 v', Xa'.2.2)).2.2[N']? = some (.inl 4) := fun v' => hsa'
  rw [pa']
  show ∃ I'' X'', (q_pR (Ia', Xa') N' 4 1 (X'.2.2.length + 1) fun M3' => q_pR M3' N' 4 0 (r' + 1) fun M4' => some ((), M4')) = _ ∧ _
  rw [p_pR hsa' hN', p_pR (hsb' _) hN']
  refine ⟨Ia', _, rfl, a1', a2', fun k' j' z1' z2' => ?_, ?_, ?_⟩
  · show q_u2 (q_u2 Xa'.2.1 N' 1 _) N' 0 _ k' j' = _
    rw [p_uN _ _ _ _ _ _ (by omega), p_uN _ _ _ _ _ _ (by omega)]
    exact a3' k' j' z2'
  · exact p_uS _ _ _ _
  · show q_u2 (q_u2 Xa'.2.1 N' 1 (X'.2.2.length + 1)) N' 0 _ N' 1 = _
    rw [p_uN _ _ _ _ _ _ (by omega)]
    exact p_uS _ _ _ _
theorem s_lwcp (hB' : p_B X') {lc' n' : Nat} {β : Nat → Nat} (hlc' : lc' < 4) (hn' : n' ≤ 240) (h7' : I' 87 7 = Int32.ofNat lc') (hb' : ∀ i', i' < n' → I' 88 i' = t_by (β i')) (hβ : ∀ i', i' < n' → β i' < 256) : ∃ J', q_lp (fun z' => B_X12_text_71 87 (Int32.ofNat n') z'.1 z'.2) q_fu ((0 : Int32), (I', X')) = some (J', X') ∧ (∀ c', c' ≠ 89 → J' c' = I' c') ∧ (∀ j', ¬ (240 * lc' ≤ j' ∧ j' < 240 * lc' + 240) → J' 89 j' = I' 89 j') ∧ (∀ j', j' < n' → J' 89 (240 * lc' + j') = t_by (β j')) := by
  obtain ⟨z', h1', J', rfl, j1', j2', j3'⟩ := p_lp (fun z' => B_X12_text_71 87 (Int32.ofNat n') z'.1 z'.2) (fun i' z' => ∃ J', z' = (Int32.ofNat i', (J', X')) ∧ (∀ c', c' ≠ 89 → J' c' = I' c') ∧ (∀ j', ¬ (240 * lc' ≤ j' ∧ j' < 240 * lc' + 240) → J' 89 j' = I' 89 j') ∧ (∀ j', j' < i' → J' 89 (240 * lc' + j') = t_by (β j')))
    (fun z' => ∃ J', z' = (J', X') ∧ (∀ c', c' ≠ 89 → J' c' = I' c') ∧ (∀ j', ¬ (240 * lc' ≤ j' ∧ j' < 240 * lc' + 240) → J' 89 j' = I' 89 j') ∧ (∀ j', j' < n' → J' 89 (240 * lc' + j') = t_by (β j'))) n' (by
      rintro i' z' hi' ⟨J', rfl, j1', j2', j3'⟩
      have hl' : (Int32.ofNat i' < Int32.ofNat n') = (i' < n') := p_lt i' n' (by omega) (by omega)
      have l7' : J' 87 7 = Int32.ofNat lc' := by rw [j1' 87 (by decide)]; exact h7'
      have h240 : (240 : Int32) * Int32.ofNat lc' = Int32.ofNat (240 * lc') := by rw [show (240 : Int32) = Int32.ofNat 240 from rfl, ← Int32.ofNat_mul]
      have hsm' : Int32.ofNat (240 * lc') + Int32.ofNat i' = Int32.ofNat (240 * lc' + i') := (Int32.ofNat_add _ _).symm
      unfold B_X12_text_71
      by_cases hlt' : i' < n'
      · left
        have l88' : J' 88 i' = t_by (β i') := by rw [j1' 88 (by decide)]; exact hb' i' hlt'
        have hby' : (t_by (β i')).toInt8.toInt32 = t_by (β i') := yq_by2 (β i') (hβ i' hlt')
        have tB' : ∀ f' : q_Mem → Option ((Int32 × q_Mem) ⊕ q_Mem), q_tB (J', X') 89 (Int32.ofNat (240 * lc' + i')) (t_by (β i')) f' = f' (q_u2 J' 89 (240 * lc' + i') (t_by (β i')), X') := fun f' => by
          rw [p_tB (sh_89 hB') (by decide) (by decide) J' (240 * lc' + i') _ f' (by omega), hby']
        refine ⟨(Int32.ofNat (i' + 1), (q_u2 J' 89 (240 * lc' + i') (t_by (β i')), X')), ?_, hlt', _, rfl, fun c' hc' => by rw [p_uc _ _ _ _ _ hc']; exact j1' c' hc', fun j' hj' => by rw [p_uj _ _ _ _ _ (by omega)]; exact j2' j' hj', fun j' hj' => ?_⟩
        · simp (disch := omega) only [↓ce_87 hB', rf_87 hB', ↓ce_88 hB', ↓nn_31, ↓nn_33, ↓nn_89, ↓nn_90, ↓nn_91, ↓nn_92, ↓nn_93, ↓nn_94, ↓nn_95, ↓nn_96, ↓nn_97, ↓nn_98, ↓nn_99, ↓nn_100, ↓nn_101, ↓nn_102, ↓nn_103, ↓nn_104, ↓nn_105, ↓nn_106, ↓nn_107, ↓nn_108, p_bs, p_rq0, p_rq1, p_rz0, p_rz1, p_us, p_un, p_uj, ↓reduceIte, hl', hlt', l7', l88', h240, hsm', tB', p_ar]
        · by_cases e' : j' = i'
          · subst e'; rw [p_us]
          · rw [p_uj _ _ _ _ _ (by omega)]; exact j3' j' (by omega)
      · right
        have hi'' : i' = n' := by omega
        subst hi''
        simp (disch := omega) only [p_bs, p_rq0, p_rq1, p_rz0, p_rz1, p_us, p_un, p_uj, ↓reduceIte, hl', Nat.lt_irrefl]
        exact ⟨_, rfl, J', rfl, j1', j2', j3'⟩) n' 0 q_fu (0, (I', X')) (by omega) (by unfold q_fu; omega) ⟨I', rfl, fun _ _ => rfl, fun _ _ => rfl, fun j' hj' => absurd hj' (by omega)⟩
  exact ⟨J', h1', j1', j2', j3'⟩
theorem s_mtext1 (hB' : p_B X') {J' : p_I} {lc' n' : Nat} {β : Nat → Nat} (hlc' : lc' < 4) (h7' : I' 87 7 = Int32.ofNat lc') (hf' : F_X12_fault 87 (Int32.ofNat 1) (q_u2 I' 87 0 0, X') = some (J' 87 11, (J', p_T X' 89))) (h11' : J' 87 11 = -1) (hJ7' : J' 87 7 = Int32.ofNat lc') (hJ6' : J' 87 6 = Int32.ofNat n') (hn' : n' ≤ 240) (hb' : ∀ i', i' < n' → J' 88 i' = t_by (β i')) (hβ : ∀ i', i' < n' → β i' < 256) : ∃ K', F_X12_text 87 (Int32.ofNat 1) (I', X') = some (Int32.ofNat lc', (K', p_T X' 89)) ∧ (∀ c', c' ≠ 87 → c' ≠ 89 → c' ≠ 90 → K' c' = J' c') ∧ (∀ j', j' ≠ 6 → j' ≠ 7 → K' 87 j' = J' 87 j') ∧ K' 87 6 = 0 ∧ K' 87 7 = Int32.ofNat (lc' + 1) ∧ (∀ j', ¬ (240 * lc' ≤ j' ∧ j' < 240 * lc' + 240) → K' 89 j' = J' 89 j') ∧ (∀ j', j' < n' → K' 89 (240 * lc' + j') = t_by (β j')) ∧ (∀ j', j' ≠ lc' → K' 90 j' = J' 90 j') ∧ K' 90 lc' = Int32.ofNat n' := by
  have hin' : ∀ M' : q_Mem, F_X12_isIn (Int32.ofNat 1).toInt64 0 2 M' = some (t_b (t_inr (Int32.ofNat 1) 3)) := fun M' => s_isInT _ 2 (by decide) 0 2 rfl rfl M'
  have hr' : t_inr (Int32.ofNat 1) 3 = true := by decide
  have hB'' := p_BT hB' 89
  have h7'' : q_u2 I' 87 0 0 87 7 = Int32.ofNat lc' := by rw [p_uj _ _ _ _ _ (by decide)]; exact h7'
  have hn4' : (Int32.ofNat lc' = 4) = False := by
    apply eq_false
    intro e'
    have := p_inj (show Int32.ofNat lc' = Int32.ofNat 4 from e') (by omega) (by omega)
    omega
  obtain ⟨K1', a1', a2', a3', a4'⟩ := s_lwcp (X' := p_T X' 89) (I' := q_u2 J' 87 6 0) (β := β) hB'' hlc' hn' (by rw [p_uj _ _ _ _ _ (by decide)]; exact hJ7') (fun i' hi' => by rw [p_uc _ _ _ _ _ (by decide)]; exact hb' i' hi') hβ
  have k7' : K1' 87 7 = Int32.ofNat lc' := by rw [a2' 87 (by decide), p_uj _ _ _ _ _ (by decide)]; exact hJ7'
  have hsub : Int32.ofNat (lc' + 1) - 1 = Int32.ofNat lc' := p_osub (lc' + 1) 1 (by omega)
  refine ⟨q_u2 (q_u2 K1' 90 lc' (Int32.ofNat n')) 87 7 (Int32.ofNat (lc' + 1)), ?_, fun c' z1' z2' z3' => by rw [p_uc _ _ _ _ _ z1', p_uc _ _ _ _ _ z3', a2' c' z2', p_uc _ _ _ _ _ z1'], fun j' z1' z2' => by rw [p_uj _ _ _ _ _ z2', p_uc _ _ _ _ _ (by decide), a2' 87 (by decide), p_uj _ _ _ _ _ z1'], ?_, p_us _ _ _ _, fun j' hj' => by rw [p_uc _ _ _ _ _ (by decide), p_uc _ _ _ _ _ (by decide), a3' j' hj', p_uc _ _ _ _ _ (by decide)], fun j' hj' => by rw [p_uc _ _ _ _ _ (by decide), p_uc _ _ _ _ _ (by decide)]; exact a4' j' hj', fun j' hj' => by rw [p_uc _ _ _ _ _ (by decide), p_uj _ _ _ _ _ hj', a2' 90 (by decide), p_uc _ _ _ _ _ (by decide)], by rw [p_uc _ _ _ _ _ (by decide), p_us]⟩
  · unfold F_X12_text J_X12_text_30 J_X12_text_43
    simp (disch := omega) only [↓ce_87 hB', rf_87 hB', ↓nn_31, ↓nn_33, ↓nn_89, ↓nn_90, ↓nn_91, ↓nn_92, ↓nn_93, ↓nn_94, ↓nn_95, ↓nn_96, ↓nn_97, ↓nn_98, ↓nn_99, ↓nn_100, ↓nn_101, ↓nn_102, ↓nn_103, ↓nn_104, ↓nn_105, ↓nn_106, ↓nn_107, ↓nn_108, p_bs, p_rq0, p_rq1, p_rz0, p_rz1, p_us, p_un, p_uj, ↓reduceIte, hin', hr', t_b0, Bool.true_eq_false, show (Int32.ofNat 1 = 1) = True from by decide, show (Int32.ofNat 1 = 2) = False from by decide, h7'', h7', hn4', hf', h11']
    have hB' := hB''
    simp (disch := omega) only [↓ce_87 hB', rf_87 hB', ↓nn_31, ↓nn_33, ↓nn_89, ↓nn_90, ↓nn_91, ↓nn_92, ↓nn_93, ↓nn_94, ↓nn_95, ↓nn_96, ↓nn_97, ↓nn_98, ↓nn_99, ↓nn_100, ↓nn_101, ↓nn_102, ↓nn_103, ↓nn_104, ↓nn_105, ↓nn_106, ↓nn_107, ↓nn_108, p_bs, p_rq0, p_rq1, p_rz0, p_rz1, p_us, p_un, p_uj, ↓reduceIte, hJ6']
    simp (disch := omega) only [↓ce_87 hB', rf_87 hB', ↓ce_90 hB', ↓nn_31, ↓nn_33, ↓nn_89, ↓nn_90, ↓nn_91, ↓nn_92, ↓nn_93, ↓nn_94, ↓nn_95, ↓nn_96, ↓nn_97, ↓nn_98, ↓nn_99, ↓nn_100, ↓nn_101, ↓nn_102, ↓nn_103, ↓nn_104, ↓nn_105, ↓nn_106, ↓nn_107, ↓nn_108, p_bs, p_rq0, p_rq1, p_rz0, p_rz1, p_us, p_un, p_uj, ↓reduceIte, a1']
    simp (disch := omega) only [↓ce_87 hB', rf_87 hB', ↓ce_90 hB', ↓nn_31, ↓nn_33, ↓nn_89, ↓nn_90, ↓nn_91, ↓nn_92, ↓nn_93, ↓nn_94, ↓nn_95, ↓nn_96, ↓nn_97, ↓nn_98, ↓nn_99, ↓nn_100, ↓nn_101, ↓nn_102, ↓nn_103, ↓nn_104, ↓nn_105, ↓nn_106, ↓nn_107, ↓nn_108, p_bs, p_rq0, p_rq1, p_rz0, p_rz1, p_us, p_un, p_uj, ↓reduceIte, k7', p_ar, hsub]
  · rw [p_uj _ _ _ _ _ (by decide), p_uc _ _ _ _ _ (by decide), a2' 87 (by decide)]; exact p_us _ _ _ _
end PT'
