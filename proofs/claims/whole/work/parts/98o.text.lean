/-! text: a week, both sides -/
section PT'
variable {X' : p_X} {I' : p_I}
theorem s_newW (hN' : q_NS ≤ X'.2.2.length) : ∃ I'' X'', F_X10_init X'.2.2.length (q_push (I', X') (.inl 10)) = some ((), (I'', X'')) ∧ (∀ c', c' ≠ X'.2.2.length → c' ≠ X'.2.2.length + 1 → I'' c' = I' c') ∧ I'' X'.2.2.length 1 = 0 ∧ X''.2.2 = X'.2.2 ++ [.inl 10] ++ [.inr (0, 48)] ∧ (∀ k' j', k' ≠ X'.2.2.length → k' ≠ X'.2.2.length + 1 → X''.2.1 k' j' = X'.2.1 k' j') ∧ X''.2.1 X'.2.2.length 0 = X'.2.2.length + 1 + 1 := by
  obtain ⟨x1', x2', S'⟩ := X'
  simp only at hN' ⊢
  have hl' : (S' ++ [(.inl 10 : q_Sh)]).length = S'.length + 1 := by simp
  have hs' : (S' ++ [(.inl 10 : q_Sh)] ++ [(.inr (0, 48) : q_Sh)])[S'.length]? = some (.inl 10) := by
    rw [List.getElem?_append_left (by simp), List.getElem?_append_right (Nat.le_refl _), Nat.sub_self]
    rfl
  unfold F_X10_init q_nA
  rw [if_neg (by decide)]
  have e48' : ((48 : Int32).toNatClampNeg) = 48 := by decide
  rw [e48']
  have ep' : q_push (q_push (I', x1', x2', S') (.inl 10)) (.inr (0, 48)) = (va_up (va_up I' S'.length (fun _ => 0)) (S'.length + 1) (fun _ => 0), va_up (va_up x1' S'.length (fun _ => 0)) (S'.length + 1) (fun _ => 0), va_up (va_up x2' S'.length (fun _ => 0)) (S'.length + 1) (fun _ => 0), S' ++ [(.inl 10 : q_Sh)] ++ [(.inr (0, 48) : q_Sh)]) := by
    unfold q_push
    simp only [hl']
  have el' : (q_push (I', x1', x2', S') (.inl 10)).2.2.2.length = S'.length + 1 := hl'
  rw [ep', el']
  unfold q_pR q_pI
  simp only [hs', hN', and_self, ↓reduceIte, q_sR, q_sI]
  refine ⟨_, _, rfl, fun c' z1' z2' => ?_, ?_, rfl, fun k' j' z1' z2' => ?_, ?_⟩
  · rw [p_uc _ _ _ _ _ z1', p_vuN _ _ _ _ z2', p_vuN _ _ _ _ z1']
  · exact p_us _ _ _ _
  · show q_u2 (va_up (va_up x2' S'.length (fun _ => 0)) (S'.length + 1) (fun _ => 0)) S'.length 0 (S'.length + 1 + 1) k' j' = x2' k' j'
    rw [p_uN _ _ _ _ _ _ (by omega), p_vuN _ _ _ _ z2', p_vuN _ _ _ _ z1']
  · exact p_uS _ _ _ _
end PT'
section PT'
variable {A' : v_A} {X' : p_X} {I' : p_I}
theorem s_mtext2 (hB' : p_B X') {J' : p_I} {wc' : Nat} (hwc' : wc' < 4) (h30' : I' 87 30 = Int32.ofNat wc') (hf' : F_X12_fault 87 (Int32.ofNat 2) (q_u2 I' 87 0 0, X') = some (J' 87 11, (J', p_T X' 89))) (h11' : J' 87 11 = -1) (hJ30' : J' 87 30 = Int32.ofNat wc') {sz' : Int32} (h994 : J' 99 4 = sz') : ∃ K', F_X12_text 87 (Int32.ofNat 2) (I', X') = some (Int32.ofNat wc', (K', p_T X' 89)) ∧ (∀ c', c' ≠ 87 → c' ≠ 98 → c' ≠ 99 → K' c' = J' c') ∧ (∀ j', j' ≠ 6 → j' ≠ 30 → K' 87 j' = J' 87 j') ∧ K' 87 6 = 0 ∧ K' 87 30 = Int32.ofNat (wc' + 1) ∧ (∀ j', ¬ (48 * wc' ≤ j' ∧ j' < 48 * wc' + 48) → K' 98 j' = J' 98 j') ∧ (∀ j', j' < 48 → K' 98 (48 * wc' + j') = J' 98 (192 + j')) ∧ (∀ j', j' ≠ wc' → K' 99 j' = J' 99 j') ∧ K' 99 wc' = sz' := by
  have hin' : ∀ M' : q_Mem, F_X12_isIn (Int32.ofNat 2).toInt64 0 2 M' = some (t_b (t_inr (Int32.ofNat 2) 3)) := fun M' => s_isInT _ 2 (by decide) 0 2 rfl rfl M'
  have hr' : t_inr (Int32.ofNat 2) 3 = true := by decide
  have hB'' := p_BT hB' 89
  have h30'' : q_u2 I' 87 0 0 87 30 = Int32.ofNat wc' := by rw [p_uj _ _ _ _ _ (by decide)]; exact h30'
  have hn4' : (Int32.ofNat wc' = 4) = False := by
    apply eq_false
    intro e'
    have := p_inj (show Int32.ofNat wc' = Int32.ofNat 4 from e') (by omega) (by omega)
    omega
  obtain ⟨K1', a1', a2', a3', a4'⟩ := s_wkcp (X' := p_T X' 89) (I' := q_u2 J' 87 6 0) hB'' hwc' (by rw [p_uj _ _ _ _ _ (by decide)]; exact hJ30')
  have k30' : K1' 87 30 = Int32.ofNat wc' := by rw [a2' 87 (by decide), p_uj _ _ _ _ _ (by decide)]; exact hJ30'
  have k994 : K1' 99 4 = sz' := by rw [a2' 99 (by decide), p_uc _ _ _ _ _ (by decide)]; exact h994
  have hb1' : q_u2 K1' 99 wc' sz' 87 30 = Int32.ofNat wc' := by rw [p_uc _ _ _ _ _ (by decide)]; exact k30'
  have hsub : Int32.ofNat (wc' + 1) - 1 = Int32.ofNat wc' := p_osub (wc' + 1) 1 (by omega)
  refine ⟨q_u2 (q_u2 K1' 99 wc' sz') 87 30 (Int32.ofNat (wc' + 1)), ?_, fun c' z1' z2' z3' => by rw [p_uc _ _ _ _ _ z1', p_uc _ _ _ _ _ z3', a2' c' z2', p_uc _ _ _ _ _ z1'], fun j' z1' z2' => by rw [p_uj _ _ _ _ _ z2', p_uc _ _ _ _ _ (by decide), a2' 87 (by decide), p_uj _ _ _ _ _ z1'], ?_, p_us _ _ _ _, fun j' hj' => by rw [p_uc _ _ _ _ _ (by decide), p_uc _ _ _ _ _ (by decide), a3' j' hj', p_uc _ _ _ _ _ (by decide)], fun j' hj' => by rw [p_uc _ _ _ _ _ (by decide), p_uc _ _ _ _ _ (by decide), a4' j' hj', p_uc _ _ _ _ _ (by decide)], fun j' hj' => by rw [p_uc _ _ _ _ _ (by decide), p_uj _ _ _ _ _ hj', a2' 99 (by decide), p_uc _ _ _ _ _ (by decide)], by rw [p_uc _ _ _ _ _ (by decide), p_us]⟩
  · unfold F_X12_text J_X12_text_30 J_X12_text_43
    simp (disch := omega) only [↓ce_87 hB', rf_87 hB', ↓nn_31, ↓nn_33, ↓nn_89, ↓nn_90, ↓nn_91, ↓nn_92, ↓nn_93, ↓nn_94, ↓nn_95, ↓nn_96, ↓nn_97, ↓nn_98, ↓nn_99, ↓nn_100, ↓nn_101, ↓nn_102, ↓nn_103, ↓nn_104, ↓nn_105, ↓nn_106, ↓nn_107, ↓nn_108, p_bs, p_rq0, p_rq1, p_rz0, p_rz1, p_us, p_un, p_uj, ↓reduceIte, hin', hr', t_b0, Bool.true_eq_false, show (Int32.ofNat 2 = 1) = False from by decide, show (Int32.ofNat 2 = 2) = True from by decide, h30'', hn4', hf', h11']
    have hB' := hB''
    simp (disch := omega) only [↓ce_87 hB', rf_87 hB', ↓ce_99 hB', ↓nn_31, ↓nn_33, ↓nn_89, ↓nn_90, ↓nn_91, ↓nn_92, ↓nn_93, ↓nn_94, ↓nn_95, ↓nn_96, ↓nn_97, ↓nn_98, ↓nn_99, ↓nn_100, ↓nn_101, ↓nn_102, ↓nn_103, ↓nn_104, ↓nn_105, ↓nn_106, ↓nn_107, ↓nn_108, p_bs, p_rq0, p_rq1, p_rz0, p_rz1, p_us, p_un, p_uj, ↓reduceIte, a1']
    have l4' : ∀ f' : Int32 → Option (Int32 × q_Mem), q_lI (K1', p_T X' 89) 0 99 4 f' = f' (K1' 99 4) := fun f' => p_lI (sh_99 hB') (by decide) K1' 4 f' (by decide)
    simp (disch := omega) only [↓ce_87 hB', rf_87 hB', ↓nn_31, ↓nn_33, ↓nn_89, ↓nn_90, ↓nn_91, ↓nn_92, ↓nn_93, ↓nn_94, ↓nn_95, ↓nn_96, ↓nn_97, ↓nn_98, ↓nn_99, ↓nn_100, ↓nn_101, ↓nn_102, ↓nn_103, ↓nn_104, ↓nn_105, ↓nn_106, ↓nn_107, ↓nn_108, p_bs, p_rq0, p_rq1, p_rz0, p_rz1, p_us, p_un, p_uj, ↓reduceIte, k30', l4', k994]
    simp (disch := omega) only [↓ce_87 hB', rf_87 hB', ↓ce_99 hB', ↓nn_31, ↓nn_33, ↓nn_89, ↓nn_90, ↓nn_91, ↓nn_92, ↓nn_93, ↓nn_94, ↓nn_95, ↓nn_96, ↓nn_97, ↓nn_98, ↓nn_99, ↓nn_100, ↓nn_101, ↓nn_102, ↓nn_103, ↓nn_104, ↓nn_105, ↓nn_106, ↓nn_107, ↓nn_108, p_bs, p_rq0, p_rq1, p_rz0, p_rz1, p_us, p_un, p_uj, ↓reduceIte, hb1', p_ar, hsub]
  · rw [p_uj _ _ _ _ _ (by decide), p_uc _ _ _ _ _ (by decide), a2' 87 (by decide)]; exact p_us _ _ _ _
theorem m_text2 (h' : v_V A' I' X') : ∃ r' I1' J' X1' X2' A'', F_X11_text 36 (Int32.ofNat 2) (I', X') = some (r', (I1', X1')) ∧ F_X12_text 87 (Int32.ofNat 2) (I1', X1') = some (r', (J', X2')) ∧ v_V A'' J' X2' := by
  obtain ⟨L', hLC', hLM'⟩ := v_law h'
  have hsc' := p_scN hLC'
  have hsc'' := v_scN h'
  obtain ⟨hB', hS', hT', hH', hN', hP', hG', hC', hL', hLH', hW', hD', hF'⟩ := id h'
  obtain ⟨H', hz', D', lc', lwf', wc', wkf'⟩ := A'
  simp only at *
  obtain ⟨a1', a2', a3', a4', a5', a6'⟩ := id hW'
  have hin' : ∀ M' : q_Mem, F_X12_isIn (Int32.ofNat 2).toInt64 0 2 M' = some (t_b (t_inr (Int32.ofNat 2) 3)) := fun M' => s_isInT _ 2 (by decide) 0 2 rfl rfl M'
  have hr' : t_inr (Int32.ofNat 2) 3 = true := by decide
  have h30'' : q_u2 I' 87 0 0 87 30 = Int32.ofNat wc' := by rw [p_uj _ _ _ _ _ (by decide)]; exact a3'
  have hlt4' : (Int32.ofNat wc' < 4) = (wc' < 4) := p_lt wc' 4 (by omega) (by decide)
  by_cases hw4' : wc' < 4
  · have hroom : F_X11_hasRoomFor 36 (Int32.ofNat 2) (I', X') = some 1 := by
      unfold F_X11_hasRoomFor
      simp (disch := omega) only [↓ce_36 hB', rf_36 hB', ↓nn_38, ↓nn_40, ↓nn_45, ↓nn_50, ↓nn_52, ↓nn_53, ↓nn_54, ↓nn_56, ↓nn_58, ↓nn_64, ↓nn_67, ↓nn_68, ↓nn_84, p_bs, p_rq0, p_rq1, p_rz0, p_rz1, p_us, p_un, p_uj, ↓reduceIte, show (Int32.ofNat 2 = 1) = False from by decide, show (Int32.ofNat 2 = 2) = True from by decide, a2', hlt4', hw4']
    have hn4' : (Int32.ofNat wc' = 4) = False := by
      apply eq_false
      intro e'
      have := p_inj (show Int32.ofNat wc' = Int32.ofNat 4 from e') (by omega) (by omega)
      omega
    have hws' := a4' wc' (Nat.le_refl _)
    obtain ⟨w1', w2', w3', w4', w5'⟩ := id hws'
    obtain ⟨ok', x', I1', J', c1', c2', c3', c4', c5', c6', c7', c8', c9', c10', c11', c12', c13'⟩ := v_rdW h' rfl
    simp only at c3' c13'
    have d30' : I1' 87 30 = Int32.ofNat wc' := by rw [c3' 87 (by omega) (by omega) (by omega)]; exact a3'
    have d30'' : q_u2 I1' 87 0 0 87 30 = Int32.ofNat wc' := by rw [p_uj _ _ _ _ _ (by decide)]; exact d30'
    cases ok'
    · have hxn' : (Int32.ofNat x' = -1) = False := p_ofN1 x' (by omega)
      simp only [Bool.false_eq_true, ↓reduceIte] at c9'
      have hf' := s_mfault2 (I1' := q_u2 I1' 87 0 0) hB' (by rw [p_uu]; exact c2')
      rw [c9'] at hf'
      refine ⟨-1, I1', J', X', p_T X' 89, (H', hz', D', lc', lwf', wc', wkf'), ?_, ?_, ?_⟩
      · unfold F_X11_text
        simp (disch := omega) only [↓ce_36 hB', rf_36 hB', ↓nn_38, ↓nn_40, ↓nn_45, ↓nn_50, ↓nn_52, ↓nn_53, ↓nn_54, ↓nn_56, ↓nn_58, ↓nn_64, ↓nn_67, ↓nn_68, ↓nn_84, p_bs, p_rq0, p_rq1, p_rz0, p_rz1, p_us, p_un, p_uj, ↓reduceIte, show (Int32.ofNat 2 < 0) = False from by decide, show (2 < Int32.ofNat 2) = False from by decide, hroom, show ((1 : Int32) = 0) = False from by decide]
        have c1'' : F_X11_readTape 36 (Int32.ofNat 2) (I', X') = some (t_b false, (I1', X')) := c1'
        simp (disch := omega) only [↓ce_36 hB', rf_36 hB', ↓nn_38, ↓nn_40, ↓nn_45, ↓nn_50, ↓nn_52, ↓nn_53, ↓nn_54, ↓nn_56, ↓nn_58, ↓nn_64, ↓nn_67, ↓nn_68, ↓nn_84, p_bs, p_rq0, p_rq1, p_rz0, p_rz1, p_us, p_un, p_uj, ↓reduceIte, c1'', t_b0]
      · unfold F_X12_text J_X12_text_30 J_X12_text_43
        simp (disch := omega) only [↓ce_87 hB', rf_87 hB', ↓nn_31, ↓nn_33, ↓nn_89, ↓nn_90, ↓nn_91, ↓nn_92, ↓nn_93, ↓nn_94, ↓nn_95, ↓nn_96, ↓nn_97, ↓nn_98, ↓nn_99, ↓nn_100, ↓nn_101, ↓nn_102, ↓nn_103, ↓nn_104, ↓nn_105, ↓nn_106, ↓nn_107, ↓nn_108, p_bs, p_rq0, p_rq1, p_rz0, p_rz1, p_us, p_un, p_uj, ↓reduceIte, hin', hr', t_b0, Bool.true_eq_false, show (Int32.ofNat 2 = 1) = False from by decide, show (Int32.ofNat 2 = 2) = True from by decide, d30'', hn4', hf', hxn']
      · exact v_keep h' ⟨fun c' z1' z2' => by rw [c7' c' (by omega) (by omega) (by omega)]; exact c3' c' (by omega) (by omega) (by omega), by rw [c7' 37 (by decide) (by decide) (by decide)]; exact c4' 1 (by decide) (by decide), fun j' z1' z2' z3' z4' z5' z6' z7' => by rw [c8' j' z4' (by omega), c3' 87 (by omega) (by omega) (by omega)], c11', c12', fun c' z1' z2' z3' z4' => by rw [c7' c' (by omega) (by omega) (by omega)]; exact c3' c' (by omega) (by omega) (by omega)⟩ 89
    · obtain ⟨β, n', sz', rows, ⟨t1', t2', t4', t6'⟩, e1', e2', e3', e4', -, -⟩ := c13' rfl
      have hN9' := p_len hB'
      obtain ⟨N', hNN'⟩ : ∃ N', N' = X'.2.2.length := ⟨_, rfl⟩
      have lwN' : ∀ i', i' ≤ wc' → wkf' i' + 1 < N' := fun i' hi' => by rw [hNN']; exact p_gl (a4' i' hi').2.2.1
      have llN' : ∀ i', i' < lc' → lwf' i' + 2 < N' := fun i' hi' => by
        obtain ⟨β', n'', cls', b1', b2', -⟩ := hL'.2.2.2 i' hi'
        rw [hNN']; exact p_gl b2'.2.2.2.2.1
      have scN' : p_sc X' < N' := by
        rcases hsc'' with e' | ⟨i', hi', e'⟩
        · omega
        · have := llN' i' hi'; omega
      -- the class
      obtain ⟨I2', hI2'⟩ : ∃ K', K' = q_u2 I1' 37 1 0 := ⟨_, rfl⟩
      obtain ⟨Xa', hXa'⟩ : ∃ Y' : p_X, Y' = (X'.1, q_u2 X'.2.1 52 wc' (wkf' wc' + 1), X'.2.2) := ⟨_, rfl⟩
      have eN' : Xa'.2.2.length = N' := by rw [hXa', hNN']
      obtain ⟨I3', Xb', n1', n2', n3', n4', n5', n6'⟩ := s_newW (I' := I2') (X' := Xa') (by rw [eN']; show 36 ≤ N'; omega)
      rw [eN'] at n1' n2' n3' n5' n6'
      have hBa' : p_B Xa' := by
        rw [hXa']
        refine ⟨hB'.1, fun z' hz' => ?_⟩
        have hh' : ∀ z' ∈ p_rfT, ¬ (z'.1 = 52) := by decide
        show q_u2 X'.2.1 52 wc' (wkf' wc' + 1) z'.1 z'.2.1 = _
        rw [p_uN _ _ _ _ _ _ (fun e' => hh' z' hz' e'.1)]
        exact hB'.2 z' hz'
      have hXb' : p_EX (fun k' j' => k' = 52 ∧ j' = wc') X' Xb' := ⟨fun k' hk' => by rw [n4', hXa']; show (X'.2.2 ++ [_] ++ [_])[k']? = _; rw [List.append_assoc, List.getElem?_append_left hk'], fun k' j' hk' hE' => by
        rw [n5' k' j' (by omega) (by omega), hXa']
        show q_u2 X'.2.1 52 wc' (wkf' wc' + 1) k' j' = _
        rw [p_uN _ _ _ _ _ _ hE']⟩
      have hBb' : p_B Xb' := p_BE hB' hXb' (by
        have hh' : ∀ z' ∈ p_rfT, ¬ (z'.1 = 52) := by decide
        exact fun z' hz' e' => hh' z' hz' e'.1)
      obtain ⟨X1', hX1'⟩ : ∃ Y' : p_X, Y' = (Xb'.1, q_u2 Xb'.2.1 36 13 (N' + 1), Xb'.2.2) := ⟨_, rfl⟩
      have hX1E : p_EX (fun k' j' => (k' = 52 ∧ j' = wc') ∨ (k' = 36 ∧ j' = 13)) X' X1' := ⟨fun k' hk' => by rw [hX1']; exact hXb'.1 k' hk', fun k' j' hk' hE' => by
        rw [hX1']
        show q_u2 Xb'.2.1 36 13 (N' + 1) k' j' = _
        rw [p_uN _ _ _ _ _ _ (fun e' => hE' (.inr e'))]
        exact hXb'.2 k' j' hk' (fun e' => hE' (.inl e'))⟩
      have hB1' : p_B X1' := p_BE hB' hX1E (by
        have hh' : ∀ z' ∈ p_rfT, ¬ (z'.1 = 52) ∧ ¬ (z'.1 = 36 ∧ z'.2.1 = 13) := by decide
        exact fun z' hz' e' => e'.elim (fun e' => (hh' z' hz').1 e'.1) (fun e' => (hh' z' hz').2 e'))
      obtain ⟨I4', hI4'⟩ : ∃ K', K' = q_u2 I3' 36 15 (Int32.ofNat (wc' + 1)) := ⟨_, rfl⟩
      have f3' : ∀ c', c' ≠ 37 → c' ≠ wkf' wc' → c' ≠ wkf' wc' + 1 → c' ≠ N' → c' ≠ N' + 1 → I3' c' = I' c' := fun c' z1' z2' z3' z4' z5' => by rw [n2' c' z4' z5', hI2', p_uc _ _ _ _ _ z1']; exact c3' c' z1' z2' z3'
      have f4' : ∀ c', c' ≠ 36 → c' ≠ 37 → c' ≠ wkf' wc' → c' ≠ wkf' wc' + 1 → c' ≠ N' → c' ≠ N' + 1 → I4' c' = I' c' := fun c' z0' z1' z2' z3' z4' z5' => by rw [hI4', p_uc _ _ _ _ _ z0']; exact f3' c' z1' z2' z3' z4' z5'
      have f36' : ∀ j', j' ≠ 15 → I4' 36 j' = I' 36 j' := fun j' hj' => by rw [hI4', p_uj _ _ _ _ _ hj', f3' 36 (by omega) (by omega) (by omega) (by omega) (by omega)]
      have i3' : I3' 36 15 = Int32.ofNat wc' := by rw [f3' 36 (by omega) (by omega) (by omega) (by omega) (by omega)]; exact a2'
      have g37' : I4' 37 1 = 0 := by rw [hI4', p_uc _ _ _ _ _ (by decide), n2' 37 (by omega) (by omega), hI2', p_us]
      have gw' : I4' (wkf' wc') = I1' (wkf' wc') ∧ I4' (wkf' wc' + 1) = I1' (wkf' wc' + 1) := by
        have := lwN' wc' (Nat.le_refl _)
        constructor
        · rw [hI4', p_uc _ _ _ _ _ (by omega), n2' _ (by omega) (by omega), hI2', p_uc _ _ _ _ _ (by omega)]
        · rw [hI4', p_uc _ _ _ _ _ (by omega), n2' _ (by omega) (by omega), hI2', p_uc _ _ _ _ _ (by omega)]
      have hclass : F_X11_text 36 (Int32.ofNat 2) (I', X') = some (Int32.ofNat wc', (I4', X1')) := by
        have c1'' : F_X11_readTape 36 (Int32.ofNat 2) (I', X') = some (t_b true, (I1', X')) := c1'
        have j15' : I2' 36 15 = Int32.ofNat wc' := by rw [hI2', p_uc _ _ _ _ _ (by decide), c3' 36 (by omega) (by omega) (by omega)]; exact a2'
        have etR' : ∀ f' : q_Mem → Option (Int32 × q_Mem), q_tR (I2', X') 4 52 (Int32.ofNat wc') 10 (wkf' wc') f' = f' (I2', Xa') := fun f' => by
          unfold q_tR
          rw [if_neg, p_nat wc' (by omega), hXa']
          · rfl
          · rintro (((e' | e') | e') | e')
            · exact p_nn wc' (by omega) e'
            · rw [p_nat wc' (by omega), p_ln (sh_52 hB')] at e'; omega
            · exact absurd e' (by decide)
            · exact e' w1'
        have enO' : ∀ f' : Nat → q_Mem → Option (Int32 × q_Mem), q_nO (I2', Xa') 10 f' = f' N' (q_push (I2', Xa') (.inl 10)) := fun f' => by
          unfold q_nO
          show f' Xa'.2.2.length _ = _
          rw [eN']
        have epR' : ∀ f' : q_Mem → Option (Int32 × q_Mem), q_pR (I3', Xb') 36 11 13 (N' + 1) f' = f' (I3', X1') := fun f' => by rw [p_pR (sh_36 hBb') (by decide), hX1']
        unfold F_X11_text
        simp (disch := omega) only [↓ce_36 hB', rf_36 hB', ↓nn_38, ↓nn_40, ↓nn_45, ↓nn_50, ↓nn_52, ↓nn_53, ↓nn_54, ↓nn_56, ↓nn_58, ↓nn_64, ↓nn_67, ↓nn_68, ↓nn_84, p_bs, p_rq0, p_rq1, p_rz0, p_rz1, p_us, p_un, p_uj, ↓reduceIte, show (Int32.ofNat 2 < 0) = False from by decide, show (2 < Int32.ofNat 2) = False from by decide, hroom, show ((1 : Int32) = 0) = False from by decide, c1'', t_b0, Bool.true_eq_false]
        simp (disch := omega) only [↓ce_37 hB', rf_37 hB', ↓nn_39, p_bs, p_rq0, p_rq1, p_rz0, p_rz1, p_us, p_un, p_uj, ↓reduceIte, show (Int32.ofNat 2 = 0) = False from by decide, show (Int32.ofNat 2 = 1) = False from by decide]
        rw [← hI2']
        simp (disch := omega) only [↓ce_36 hB', rf_36 hB', ↓nn_38, ↓nn_40, ↓nn_45, ↓nn_50, ↓nn_52, ↓nn_53, ↓nn_54, ↓nn_56, ↓nn_58, ↓nn_64, ↓nn_67, ↓nn_68, ↓nn_84, p_bs, p_rq0, p_rq1, p_rz0, p_rz1, p_us, p_un, p_uj, ↓reduceIte, j15', a5', p_nns, etR', enO', n1', epR']
        have hB' := hB1'
        simp (disch := omega) only [↓ce_36 hB', rf_36 hB', ↓nn_38, ↓nn_40, ↓nn_45, ↓nn_50, ↓nn_52, ↓nn_53, ↓nn_54, ↓nn_56, ↓nn_58, ↓nn_64, ↓nn_67, ↓nn_68, ↓nn_84, p_bs, p_rq0, p_rq1, p_rz0, p_rz1, p_us, p_un, p_uj, ↓reduceIte, i3', p_ar]
        rw [hI4']
      -- the reference
      have hS4' : p_S (q_u2 I4' 87 0 0) := fun c' hc' => by rw [p_uc _ _ _ _ _ (by omega), f4' c' (by omega) (by omega) (by omega) (by omega) (by omega) (by omega)]; exact hS' c' hc'
      have g6' : q_u2 I4' 87 0 0 87 6 = Int32.ofNat n' := by rw [p_uj _ _ _ _ _ (by decide), f4' 87 (by omega) (by omega) (by omega) (by omega) (by omega) (by omega)]; exact t4'
      obtain ⟨R', r1', r2'⟩ := s_readWeek (β := β) (n' := n') (I' := q_u2 I4' 87 0 0) (X' := X1') hB1' hS4' g6' t1' (fun i' hi' => by rw [p_uc _ _ _ _ _ (by decide), f4' 88 (by omega) (by omega) (by omega) (by omega) (by omega) (by omega)]; exact t6' i' hi') t2'
      rcases r2' with ⟨x'', y1', -⟩ | ⟨sz'', rows', y1', y2', y3', y4', y5', y6', y7', y8'⟩
      · rw [e1'] at y1'; cases y1'
      · rw [e1'] at y1'
        cases y1'
        obtain ⟨b1', b2', b3'⟩ := t_Ib87 (q_u2 I4' 87 0 0) 0 (q_u2 I4' 87 0 0 87 6)
        have R11' : R' 87 11 = -1 := by rw [y3' 11 (by decide)]; exact b3'
        have R87' : ∀ j', j' ≠ 0 → ¬ (8 ≤ j' ∧ j' ≤ 11) → R' 87 j' = I' 87 j' := fun j' z1' z2' => by rw [y3' j' (by omega), b2' j' z2', p_uj _ _ _ _ _ z1', f4' 87 (by omega) (by omega) (by omega) (by omega) (by omega) (by omega)]
        have Rc' : ∀ c', c' ≠ 87 → c' ≠ 98 → c' ≠ 99 → R' c' = I4' c' := fun c' z1' z2' z3' => by rw [y2' c' z1' z2' z3', b1' c' z1', p_uc _ _ _ _ _ z1']
        have R98' : ∀ j', j' < 192 → R' 98 j' = I' 98 j' := fun j' hj' => by rw [y4' j' hj', p_uc _ _ _ _ _ (by decide), f4' 98 (by omega) (by omega) (by omega) (by omega) (by omega) (by omega)]
        have R99' : ∀ j', j' ≠ 4 → R' 99 j' = I' 99 j' := fun j' hj' => by rw [y5' j' hj', p_uc _ _ _ _ _ (by decide), f4' 99 (by omega) (by omega) (by omega) (by omega) (by omega) (by omega)]
        have R0' : R' 87 0 = 0 := by rw [y3' 0 (by decide), b2' 0 (by omega)]; exact p_us _ _ _ _
        have hf' := s_mfault2 (I1' := q_u2 I4' 87 0 0) hB1' (by rw [p_uu]; exact r1')
        obtain ⟨K', k1', k2', k3', k4', k5', k6', k7', k8', k9'⟩ := s_mtext2 (I' := I4') (J' := R') hB1' hw4' (by rw [f4' 87 (by omega) (by omega) (by omega) (by omega) (by omega) (by omega)]; exact a3') hf' R11' (by rw [R87' 30 (by decide) (by omega)]; exact a3') y6'
        have fK' : ∀ c', c' ≠ 36 → c' ≠ 37 → c' ≠ 87 → c' ≠ 98 → c' ≠ 99 → c' ≠ wkf' wc' → c' ≠ wkf' wc' + 1 → c' ≠ N' → c' ≠ N' + 1 → K' c' = I' c' := fun c' z0' z1' z2' z3' z4' z5' z6' z7' z8' => by rw [k2' c' z2' z3' z4', Rc' c' z2' z3' z4']; exact f4' c' z0' z1' z5' z6' z7' z8'
        have nK' : ∀ c', c' < 109 → ¬ (c' = 36 ∨ c' = 37 ∨ c' = 85 ∨ c' = 86 ∨ c' = 87 ∨ c' = 98 ∨ c' = 99) → K' c' = I' c' := fun c' z0' z1' => fK' c' (by omega) (by omega) (by omega) (by omega) (by omega) (by omega) (by omega) (by omega) (by omega)
        have K87' : ∀ j', j' ≠ 0 → ¬ (8 ≤ j' ∧ j' ≤ 11) → j' ≠ 6 → j' ≠ 30 → K' 87 j' = I' 87 j' := fun j' z1' z2' z3' z4' => by rw [k3' j' z3' z4']; exact R87' j' z1' z2'
        have K36' : ∀ j', j' ≠ 15 → K' 36 j' = I' 36 j' := fun j' hj' => by rw [k2' 36 (by decide) (by decide) (by decide), Rc' 36 (by decide) (by decide) (by decide)]; exact f36' j' hj'
        have hXE' : p_EX (fun k' j' => (k' = 52 ∧ j' = wc') ∨ (k' = 36 ∧ j' = 13) ∨ (k' = 87 ∧ j' = 5)) X' (p_T X1' 89) := ⟨fun k' hk' => hX1E.1 k' hk', fun k' j' hk' hE' => by rw [p_Tr X1' 89 k' j' (fun e' => hE' (.inr (.inr e')))]; exact hX1E.2 k' j' hk' (fun e' => hE' (e'.elim .inl (fun e' => .inr (.inl e'))))⟩
        have x13' : (p_T X1' 89).2.1 36 13 = N' + 1 := by
          rw [p_Tr X1' 89 36 13 (by omega), hX1']
          show q_u2 Xb'.2.1 36 13 (N' + 1) 36 13 = _
          exact p_uS _ _ _ _
        have xN' : t_WS N' (p_T X1' 89) := by
          refine ⟨?_, ?_, ?_, by omega, .inr (by omega)⟩
          · show X1'.2.2[N']? = _
            rw [hX1']
            show Xb'.2.2[N']? = _
            rw [n4', hXa']
            show (X'.2.2 ++ [(.inl 10 : q_Sh)] ++ [(.inr (0, 48) : q_Sh)])[N']? = _
            rw [List.getElem?_append_left (by simp; omega), List.getElem?_append_right (by omega), hNN', Nat.sub_self]
            rfl
          · rw [p_Tr X1' 89 N' 0 (by omega), hX1']
            show q_u2 Xb'.2.1 36 13 (N' + 1) N' 0 = _
            rw [p_uN _ _ _ _ _ _ (by omega)]; exact n6'
          · show X1'.2.2[N' + 1]? = _
            rw [hX1']
            show Xb'.2.2[N' + 1]? = _
            rw [n4', hXa']
            show (X'.2.2 ++ [(.inl 10 : q_Sh)] ++ [(.inr (0, 48) : q_Sh)])[N' + 1]? = _
            rw [List.getElem?_append_right (by simp; omega)]
            simp [hNN']
        have x52' : ∀ i', i' < wc' + 1 → (p_T X1' 89).2.1 52 i' = wkf' i' + 1 := fun i' hi' => by
          by_cases e' : i' = wc'
          · rw [p_Tr X1' 89 52 i' (by omega), hX1']
            show q_u2 Xb'.2.1 36 13 (N' + 1) 52 i' = _
            rw [p_uN _ _ _ _ _ _ (by omega), n5' 52 i' (by omega) (by omega), hXa', e']
            show q_u2 X'.2.1 52 wc' (wkf' wc' + 1) 52 wc' = _
            exact p_uS _ _ _ _
          · rw [hXE'.2 52 i' (by omega) (by omega)]
            exact (a6' i' (by omega)).1
        obtain ⟨wk'', hwk''⟩ : ∃ f' : Nat → Nat, f' = fun i' => if i' = wc' + 1 then N' else wkf' i' := ⟨_, rfl⟩
        have wkO' : ∀ i', i' ≤ wc' → wk'' i' = wkf' i' := fun i' hi' => by rw [hwk'']; exact if_neg (by omega)
        have wkN' : wk'' (wc' + 1) = N' := by rw [hwk'']; exact if_pos rfl
        refine ⟨Int32.ofNat wc', I4', K', X1', p_T X1' 89, (H', hz', D', lc', lwf', wc' + 1, wk''), hclass, k1', ?_⟩
        unfold v_V
        simp only
        refine ⟨p_BT hB1' 89, fun c' hc' => by rw [nK' c' (by omega) (by omega)]; exact hS' c' hc', ⟨fun _ => 0, 0, by omega, fun i' hi' => absurd hi' (by omega), ?_, k4', fun i' hi' => absurd hi' (by omega), fun i' hi' => absurd hi' (by omega)⟩, v_Hk hH' (K36' 18 (by decide)) (fun c' h1' h2' => nK' c' (by omega) (by omega)) (nK' _ (by omega) (by omega)) (nK' _ (by omega) (by omega)) (nK' _ (by omega) (by omega)) (K87' 26 (by decide) (by omega) (by decide) (by decide)) (K87' 27 (by decide) (by omega) (by decide) (by decide)), v_Nk hN' (nK' _ (by omega) (by omega)) (nK' _ (by omega) (by omega)) (nK' _ (by omega) (by omega)), v_Pk hP' (by rw [nK' 57 (by omega) (by omega)]) (by rw [nK' 57 (by omega) (by omega)]) (nK' _ (by omega) (by omega)) (nK' _ (by omega) (by omega)) (nK' _ (by omega) (by omega)) (K87' 42 (by decide) (by omega) (by decide) (by decide)), v_Gk hG' (by rw [nK' 57 (by omega) (by omega)]) (nK' _ (by omega) (by omega)) (nK' _ (by omega) (by omega)) (nK' _ (by omega) (by omega)) (K87' 49 (by decide) (by omega) (by decide) (by decide)), v_Ck hC' (by rw [nK' 83 (by omega) (by omega)]) (nK' _ (by omega) (by omega)) (nK' _ (by omega) (by omega)) (K87' 45 (by decide) (by omega) (by decide) (by decide)), ?_, ?_, ?_, ?_, v_Fk hF' (K36' 17 (by decide)) (K87' 35 (by decide) (by omega) (by decide) (by decide))⟩
        · rw [k2' 37 (by decide) (by decide) (by decide), Rc' 37 (by decide) (by decide) (by decide)]; exact g37'
        · obtain ⟨l1', l2', l3', l4'⟩ := hL'
          refine ⟨l1', by rw [K36' 14 (by decide)]; exact l2', by rw [K87' 7 (by decide) (by omega) (by decide) (by decide)]; exact l3', fun i' hi' => ?_⟩
          obtain ⟨β', n'', cls', b1', b2', b3', b4', b5', b6', b7', b8', b9'⟩ := l4' i' hi'
          have h9' := b2'.2.2.2.2.2.1
          have hlN' := llN' i' hi'
          have hd' := hD'.2.2 i' wc' hi' (Nat.le_refl _)
          refine ⟨β', n'', cls', by rw [hXE'.2 51 i' (by omega) (by omega)]; exact b1', t_LOE b2' hXE' (fun j' e' => by omega), by rw [fK' (lwf' i' + 1) (by omega) (by omega) (by omega) (by omega) (by omega) (by omega) (by omega) (by omega) (by omega)]; exact b3', b4', b5', b6', b7', by rw [nK' 89 (by omega) (by omega)]; exact b8', by rw [nK' 90 (by omega) (by omega)]; exact b9'⟩
        · have e63' : (p_T X1' 89).2.1 63 3 = X'.2.1 63 3 := hXE'.2 63 3 (by omega) (by omega)
          unfold v_LH
          rw [K36' 16 (by decide), K87' 34 (by decide) (by omega) (by decide) (by decide), e63']
          exact hLH'
        · refine ⟨by omega, by rw [k2' 36 (by decide) (by decide) (by decide), Rc' 36 (by decide) (by decide) (by decide), hI4']; exact p_us _ _ _ _, k5', fun i' hi' => ?_, by rw [wkN']; exact x13', fun i' hi' => ?_⟩
          · by_cases e' : i' = wc' + 1
            · rw [e', wkN']; exact xN'
            · rw [wkO' i' (by omega)]
              have h9' := (a4' i' (by omega)).2.2.2
              exact t_WSE (a4' i' (by omega)) hXE' (fun j' e' => by omega)
          · rw [wkO' i' (by omega)]
            refine ⟨x52' i' hi', ?_⟩
            have h9' := (a4' i' (by omega)).2.2.2
            have hiN' := lwN' i' (by omega)
            by_cases e' : i' = wc'
            · rw [e']
              refine ⟨sz', y8', ?_, k9', fun j' hj' => ?_, fun j' hj' => ?_⟩
              · rw [k2' _ (by omega) (by omega) (by omega), Rc' _ (by omega) (by omega) (by omega), gw'.1]; exact e3'
              · rw [k7' j' (by omega), y7' j' hj', k2' _ (by omega) (by omega) (by omega), Rc' _ (by omega) (by omega) (by omega), gw'.2]
                exact (e4' j' hj').symm
              · rw [k2' _ (by omega) (by omega) (by omega), Rc' _ (by omega) (by omega) (by omega), gw'.2, e4' _ (by omega)]
                exact t_wkQ _ _ _ _ _ _ e1' (fun j' hj' => absurd hj' (by omega)) j' hj'
            · obtain ⟨-, s'', s2', s3', s4', s5', s6'⟩ := a6' i' (by omega)
              have hd' := hD'.2.1 i' wc' (by omega) (Nat.le_refl _) e'
              refine ⟨s'', s2', by rw [fK' (wkf' i') (by omega) (by omega) (by omega) (by omega) (by omega) (by omega) (by omega) (by omega) (by omega)]; exact s3', by rw [k8' i' e', R99' i' (by omega)]; exact s4', fun j' hj' => by rw [k6' _ (by omega), R98' _ (by omega), fK' (wkf' i' + 1) (by omega) (by omega) (by omega) (by omega) (by omega) (by omega) (by omega) (by omega) (by omega)]; exact s5' j' hj', by rw [fK' (wkf' i' + 1) (by omega) (by omega) (by omega) (by omega) (by omega) (by omega) (by omega) (by omega) (by omega)]; exact s6'⟩
        · obtain ⟨d1', d2', d3'⟩ := hD'
          refine ⟨d1', fun i' j' hi' hj' hij' => ?_, fun i' j' hi' hj' => ?_⟩
          · by_cases ei' : i' = wc' + 1
            · rw [ei', wkN', wkO' j' (by omega)]
              have := lwN' j' (by omega)
              omega
            · by_cases ej' : j' = wc' + 1
              · rw [ej', wkN', wkO' i' (by omega)]
                have := lwN' i' (by omega)
                omega
              · rw [wkO' i' (by omega), wkO' j' (by omega)]
                exact d2' i' j' (by omega) (by omega) hij'
          · by_cases ej' : j' = wc' + 1
            · rw [ej', wkN']
              have := llN' i' hi'
              omega
            · rw [wkO' j' (by omega)]
              exact d3' i' j' hi' (by omega)
  · have hroom : F_X11_hasRoomFor 36 (Int32.ofNat 2) (I', X') = some 0 := by
      unfold F_X11_hasRoomFor
      simp (disch := omega) only [↓ce_36 hB', rf_36 hB', ↓nn_38, ↓nn_40, ↓nn_45, ↓nn_50, ↓nn_52, ↓nn_53, ↓nn_54, ↓nn_56, ↓nn_58, ↓nn_64, ↓nn_67, ↓nn_68, ↓nn_84, p_bs, p_rq0, p_rq1, p_rz0, p_rz1, p_us, p_un, p_uj, ↓reduceIte, show (Int32.ofNat 2 = 1) = False from by decide, show (Int32.ofNat 2 = 2) = True from by decide, a2', hlt4', hw4']
    have e4' : wc' = 4 := by omega
    subst e4'
    refine ⟨-1, I', q_u2 I' 87 0 0, X', X', (H', hz', D', lc', lwf', 4, wkf'), ?_, ?_, v_thr h'⟩
    · unfold F_X11_text
      simp (disch := omega) only [↓ce_36 hB', rf_36 hB', ↓nn_38, ↓nn_40, ↓nn_45, ↓nn_50, ↓nn_52, ↓nn_53, ↓nn_54, ↓nn_56, ↓nn_58, ↓nn_64, ↓nn_67, ↓nn_68, ↓nn_84, p_bs, p_rq0, p_rq1, p_rz0, p_rz1, p_us, p_un, p_uj, ↓reduceIte, show (Int32.ofNat 2 < 0) = False from by decide, show (2 < Int32.ofNat 2) = False from by decide, hroom]
    · unfold F_X12_text J_X12_text_30
      simp (disch := omega) only [↓ce_87 hB', rf_87 hB', ↓nn_31, ↓nn_33, ↓nn_89, ↓nn_90, ↓nn_91, ↓nn_92, ↓nn_93, ↓nn_94, ↓nn_95, ↓nn_96, ↓nn_97, ↓nn_98, ↓nn_99, ↓nn_100, ↓nn_101, ↓nn_102, ↓nn_103, ↓nn_104, ↓nn_105, ↓nn_106, ↓nn_107, ↓nn_108, p_bs, p_rq0, p_rq1, p_rz0, p_rz1, p_us, p_un, p_uj, ↓reduceIte, hin', hr', t_b0, Bool.true_eq_false, show (Int32.ofNat 2 = 1) = False from by decide, show (Int32.ofNat 2 = 2) = True from by decide, h30'', show (Int32.ofNat 4 = 4) = True from by decide]
end PT'
