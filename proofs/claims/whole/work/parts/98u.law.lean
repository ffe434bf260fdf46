/-! text: a law, both sides -/
section PT'
variable {A' : v_A} {X' : p_X} {I' : p_I}
theorem m_text1 (h' : v_V A' I' X') : ∃ r' I1' J' X1' X2' A'', F_X11_text 36 (Int32.ofNat 1) (I', X') = some (r', (I1', X1')) ∧ F_X12_text 87 (Int32.ofNat 1) (I1', X1') = some (r', (J', X2')) ∧ v_V A'' J' X2' := by
  have hsc'' := v_scN h'
  obtain ⟨hB', hS', hT', hH', hN', hP', hG', hC', hL', hLH', hW', hD', hF'⟩ := id h'
  obtain ⟨H', hz', D', lc', lwf', wc', wkf'⟩ := A'
  simp only at *
  obtain ⟨a1', a2', a3', a4'⟩ := id hL'
  have hin' : ∀ M' : q_Mem, F_X12_isIn (Int32.ofNat 1).toInt64 0 2 M' = some (t_b (t_inr (Int32.ofNat 1) 3)) := fun M' => s_isInT _ 2 (by decide) 0 2 rfl rfl M'
  have hr' : t_inr (Int32.ofNat 1) 3 = true := by decide
  have h7'' : q_u2 I' 87 0 0 87 7 = Int32.ofNat lc' := by rw [p_uj _ _ _ _ _ (by decide)]; exact a3'
  have hlt4' : (Int32.ofNat lc' < 4) = (lc' < 4) := p_lt lc' 4 (by omega) (by decide)
  by_cases hl4' : lc' < 4
  · have hroom : F_X11_hasRoomFor 36 (Int32.ofNat 1) (I', X') = some 1 := by
      unfold F_X11_hasRoomFor
      simp (disch := omega) only [↓ce_36 hB', rf_36 hB', ↓nn_38, ↓nn_40, ↓nn_45, ↓nn_50, ↓nn_52, ↓nn_53, ↓nn_54, ↓nn_56, ↓nn_58, ↓nn_64, ↓nn_67, ↓nn_68, ↓nn_84, p_bs, p_rq0, p_rq1, p_rz0, p_rz1, p_us, p_un, p_uj, ↓reduceIte, show (Int32.ofNat 1 = 1) = True from by decide, a2', hlt4', hl4']
    have hn4' : (Int32.ofNat lc' = 4) = False := by
      apply eq_false
      intro e'
      have := p_inj (show Int32.ofNat lc' = Int32.ofNat 4 from e') (by omega) (by omega)
      omega
    obtain ⟨ok', x', I1', J', c1', c2', c3', c4', c5', c6', c7', c8', c9', c10', c11'⟩ := v_rdL h'
    have d7' : I1' 87 7 = Int32.ofNat lc' := by rw [c3' 87 (by decide) (by decide) (by decide)]; exact a3'
    have d7'' : q_u2 I1' 87 0 0 87 7 = Int32.ofNat lc' := by rw [p_uj _ _ _ _ _ (by decide)]; exact d7'
    have c1'' : F_X11_readTape 36 (Int32.ofNat 1) (I', X') = some (t_b ok', (I1', X')) := c1'
    cases ok'
    · have hxn' : (Int32.ofNat x' = -1) = False := p_ofN1 x' (by omega)
      simp only [Bool.false_eq_true, ↓reduceIte] at c9'
      have hf' := s_mfault1 (I1' := q_u2 I1' 87 0 0) (v' := I' 87 6) hB' (by rw [p_uj _ _ _ _ _ (by decide), c3' 87 (by decide) (by decide) (by decide)]) (by rw [p_uu]; exact c2')
      rw [c9'] at hf'
      refine ⟨-1, I1', J', X', p_T X' 89, (H', hz', D', lc', lwf', wc', wkf'), ?_, ?_, ?_⟩
      · unfold F_X11_text
        simp (disch := omega) only [↓ce_36 hB', rf_36 hB', ↓nn_38, ↓nn_40, ↓nn_45, ↓nn_50, ↓nn_52, ↓nn_53, ↓nn_54, ↓nn_56, ↓nn_58, ↓nn_64, ↓nn_67, ↓nn_68, ↓nn_84, p_bs, p_rq0, p_rq1, p_rz0, p_rz1, p_us, p_un, p_uj, ↓reduceIte, show (Int32.ofNat 1 < 0) = False from by decide, show (2 < Int32.ofNat 1) = False from by decide, hroom, show ((1 : Int32) = 0) = False from by decide, c1'', t_b0]
      · unfold F_X12_text J_X12_text_30 J_X12_text_43
        simp (disch := omega) only [↓ce_87 hB', rf_87 hB', ↓nn_31, ↓nn_33, ↓nn_89, ↓nn_90, ↓nn_91, ↓nn_92, ↓nn_93, ↓nn_94, ↓nn_95, ↓nn_96, ↓nn_97, ↓nn_98, ↓nn_99, ↓nn_100, ↓nn_101, ↓nn_102, ↓nn_103, ↓nn_104, ↓nn_105, ↓nn_106, ↓nn_107, ↓nn_108, p_bs, p_rq0, p_rq1, p_rz0, p_rz1, p_us, p_un, p_uj, ↓reduceIte, hin', hr', t_b0, Bool.true_eq_false, show (Int32.ofNat 1 = 1) = True from by decide, show (Int32.ofNat 1 = 2) = False from by decide, d7'', d7', hn4', hf', hxn']
      · exact v_keep h' ⟨fun c' z1' z2' => by rw [c7' c' (by omega)]; exact c3' c' (by omega) (by omega) (by omega), by rw [c7' 37 (by decide)]; exact c4' 1 (by decide) (by decide), fun j' z1' z2' z3' z4' z5' z6' z7' => by rw [c8' j' z4' z1' z2', c3' 87 (by decide) (by decide) (by decide)], fun j' _ => by rw [c7' 98 (by decide), c3' 98 (by decide) (by decide) (by decide)], fun j' _ => by rw [c7' 99 (by decide), c3' 99 (by decide) (by decide) (by decide)], fun c' z1' z2' z3' z4' => by rw [c7' c' (by omega)]; exact c3' c' (by omega) (by omega) (by omega)⟩ 89
    · obtain ⟨β, n', cls', t1', t2', t4', t6', e1', e2', e3', e4', e5', e6'⟩ := c11' rfl
      have elen := t_lcP e5'
      generalize hcode : t_lcode cls' = cdx' at *
      clear c2' c5' c6' c7' c8' c9' c10' c11'
      have hN9' := p_len hB'
      obtain ⟨N', hNN'⟩ : ∃ N', N' = X'.2.2.length := ⟨_, rfl⟩
      obtain ⟨w1', w2', w3', w4', w5', w6'⟩ := id hW'
      have lwN' : ∀ i', i' ≤ wc' → wkf' i' + 1 < N' := fun i' hi' => by rw [hNN']; exact p_gl (w4' i' hi').2.2.1
      have llN' : ∀ i', i' < lc' → lwf' i' + 2 < N' := fun i' hi' => by
        obtain ⟨β', n'', cls'', b1', b2', -⟩ := a4' i' hi'
        rw [hNN']; exact p_gl b2'.2.2.2.2.1
      -- the class
      obtain ⟨I2', hI2'⟩ : ∃ K', K' = q_u2 I1' 37 1 0 := ⟨_, rfl⟩
      have f2' : ∀ c', c' ≠ 37 → I2' c' = I1' c' := fun c' hc' => by rw [hI2']; exact p_uc _ _ _ _ _ hc'
      obtain ⟨Ia', Xa', pa', x1', x2', x3', x4'⟩ := yq_push X' I2' (.inl 4)
      have hBa' : p_B Xa' := p_BE hB' x4' (fun _ _ h' => h')
      have lenA : Xa'.2.2.length = N' + 1 := by rw [x2', List.length_append, ← hNN']; rfl
      obtain ⟨Ib', Xb', y0', y1', y2', y3', y4'⟩ := s_copyOf (I' := Ia') hBa' elen e4'
      rw [lenA] at y0' y1' y2' y4'
      have lenB : Xb'.2.2.length = N' + 2 := by rw [y3', List.length_append, lenA]; rfl
      have shB' : ∀ k', k' < N' + 1 → Xb'.2.2[k']? = Xa'.2.2[k']? := fun k' hk' => by rw [y3', List.getElem?_append_left (by rw [lenA]; exact hk')]
      have shN' : Xa'.2.2[N']? = some (.inl 4) := by
        rw [x2', hNN', List.getElem?_append_right (Nat.le_refl _), Nat.sub_self]; rfl
      have hBb' : p_B Xb' := p_BE (E' := fun _ _ => False) hBa' ⟨fun k' hk' => shB' k' (by omega), fun k' j' hk' _ => y4' k' j' (by omega)⟩ (fun _ _ h' => h')
      obtain ⟨Ic', Xc', u0', u1', u2', u3', u4', u5'⟩ := s_initL (I' := Ib') (X' := Xb') (N' := N') (r' := N' + 1) (by show 36 ≤ N'; omega) (by rw [shB' N' (by omega)]; exact shN')
      rw [lenB] at u1' u3' u5'
      have lenC : Xc'.2.2.length = N' + 3 := by rw [u2', List.length_append, lenB]; rfl
      have shC' : ∀ k', k' < N' + 2 → Xc'.2.2[k']? = Xb'.2.2[k']? := fun k' hk' => by rw [u2', List.getElem?_append_left (by rw [lenB]; exact hk')]
      have shX' : ∀ k', k' < N' → Xc'.2.2[k']? = X'.2.2[k']? := fun k' hk' => by rw [shC' k' (by omega), shB' k' (by omega)]; exact x4'.1 k' (by omega)
      have rfX' : ∀ k' j', k' < N' → Xc'.2.1 k' j' = X'.2.1 k' j' := fun k' j' hk' => by rw [u3' k' j' (by omega) (by omega), y4' k' j' (by omega)]; exact x3' k' j' (by omega)
      have hBc' : p_B Xc' := p_BE (E' := fun _ _ => False) hB' ⟨fun k' hk' => shX' k' (by omega), fun k' j' hk' _ => rfX' k' j' (by omega)⟩ (fun _ _ h' => h')
      have fc' : ∀ c', c' < N' → Ic' c' = I2' c' := fun c' hc' => by rw [u1' c' (by omega), y1' c' (by omega)]; exact x1' c' (by omega)
      have fc2' : ∀ c', c' < N' → c' ≠ 37 → c' ≠ 49 → c' ≠ 50 → Ic' c' = I' c' := fun c' z0' z1' z2' z3' => by rw [fc' c' z0', f2' c' z1']; exact c3' c' z1' z2' z3'
      obtain ⟨X1', hX1'⟩ : ∃ Y' : p_X, Y' = (Xc'.1, q_u2 Xc'.2.1 51 lc' (N' + 1), Xc'.2.2) := ⟨_, rfl⟩
      have hX1E : p_EX (fun k' j' => k' = 51 ∧ j' = lc') X' X1' := ⟨fun k' hk' => by rw [hX1']; exact shX' k' (by omega), fun k' j' hk' hE' => by
        rw [hX1']
        show q_u2 Xc'.2.1 51 lc' (N' + 1) k' j' = _
        rw [p_uN _ _ _ _ _ _ hE']
        exact rfX' k' j' (by omega)⟩
      have hB1' : p_B X1' := p_BE hB' hX1E (by
        have hh' : ∀ z' ∈ p_rfT, ¬ (z'.1 = 51) := by decide
        exact fun z' hz' e' => hh' z' hz' e'.1)
      obtain ⟨I4', hI4'⟩ : ∃ K', K' = q_u2 Ic' 36 14 (Int32.ofNat (lc' + 1)) := ⟨_, rfl⟩
      have f4' : ∀ c', c' < N' → c' ≠ 36 → c' ≠ 37 → c' ≠ 49 → c' ≠ 50 → I4' c' = I' c' := fun c' z' z0' z1' z2' z3' => by rw [hI4', p_uc _ _ _ _ _ z0']; exact fc2' c' z' z1' z2' z3'
      have f36' : ∀ j', j' ≠ 14 → I4' 36 j' = I' 36 j' := fun j' hj' => by rw [hI4', p_uj _ _ _ _ _ hj', fc2' 36 (by omega) (by decide) (by decide) (by decide)]
      have i14' : Ic' 36 14 = Int32.ofNat lc' := by rw [fc2' 36 (by omega) (by decide) (by decide) (by decide)]; exact a2'
      have g37' : I4' 37 1 = 0 := by rw [hI4', p_uc _ _ _ _ _ (by decide), fc' 37 (by omega), hI2', p_us]
      have gN' : ∀ j', j' < cdx'.length → I4' (N' + 1) j' = cdx'.getD j' 0 := fun j' hj' => by
        rw [hI4', p_uc _ _ _ _ _ (by omega), u1' (N' + 1) (by omega), y2' j' hj', x1' 50 (by omega), f2' 50 (by decide)]
        exact e3' j' hj'
      have hclass : F_X11_text 36 (Int32.ofNat 1) (I', X') = some (Int32.ofNat lc', (I4', X1')) := by
        have j14' : I2' 36 14 = Int32.ofNat lc' := by rw [f2' 36 (by decide), c3' 36 (by decide) (by decide) (by decide)]; exact a2'
        have enO' : ∀ f' : Nat → q_Mem → Option (Int32 × q_Mem), q_nO (I2', X') 4 f' = f' N' (Ia', Xa') := fun f' => by
          unfold q_nO
          rw [pa', hNN']
        have ewr' : F_X5_written 49 (Ia', Xa') = some (N' + 1 + 1, (Ib', Xb')) := by
          have j2' : Ia' 49 2 = Int32.ofNat cdx'.length := by rw [x1' 49 (by omega), f2' 49 (by decide)]; exact e2'
          unfold F_X5_written
          have hB' := hBa'
          simp (disch := omega) only [↓ce_49 hB', rf_49 hB', ↓nn_38, ↓nn_51, p_bs, p_rq0, p_rq1, p_rz0, p_rz1, p_us, p_un, p_uj, ↓reduceIte, j2', y0']
        have etR' : ∀ f' : q_Mem → Option (Int32 × q_Mem), q_tR (Ic', Xc') 3 51 (Int32.ofNat lc') 4 N' f' = f' (Ic', X1') := fun f' => by
          unfold q_tR
          rw [if_neg, p_nat lc' (by omega), hX1']
          · rfl
          · rintro (((e' | e') | e') | e')
            · exact p_nn lc' (by omega) e'
            · rw [p_nat lc' (by omega), p_ln (sh_51 hBc')] at e'; omega
            · exact absurd e' (by decide)
            · exact e' (by
                show Xc'.2.2[N']? = _
                rw [shC' N' (by omega), shB' N' (by omega)]; exact shN')
        have g3' : ∀ f' : Nat → Option (Int32 × q_Mem), q_gR (Ia', Xa') 36 11 3 f' = f' (49 + 1) := fun f' => by
          have hB' := hBa'
          simp (disch := omega) only [↓ce_36 hB', rf_36 hB', ↓nn_38, ↓nn_40, ↓nn_45, ↓nn_50, ↓nn_52, ↓nn_53, ↓nn_54, ↓nn_56, ↓nn_58, ↓nn_64, ↓nn_67, ↓nn_68, ↓nn_84, p_bs, p_rq0, p_rq1, p_rz0, p_rz1, p_us, p_un, p_uj, ↓reduceIte]
        have ob' : ∀ o' : Option (Int32 × q_Mem), q_ob (Ia', Xa') 49 5 o' = o' := fun o' => by
          have hB' := hBa'
          simp (disch := omega) only [↓ce_49 hB', rf_49 hB', ↓nn_38, ↓nn_51, p_bs, p_rq0, p_rq1, p_rz0, p_rz1, p_us, p_un, p_uj, ↓reduceIte]
        unfold F_X11_text
        simp (disch := omega) only [↓ce_36 hB', rf_36 hB', ↓nn_38, ↓nn_40, ↓nn_45, ↓nn_50, ↓nn_52, ↓nn_53, ↓nn_54, ↓nn_56, ↓nn_58, ↓nn_64, ↓nn_67, ↓nn_68, ↓nn_84, p_bs, p_rq0, p_rq1, p_rz0, p_rz1, p_us, p_un, p_uj, ↓reduceIte, show (Int32.ofNat 1 < 0) = False from by decide, show (2 < Int32.ofNat 1) = False from by decide, hroom, show ((1 : Int32) = 0) = False from by decide, c1'', t_b0, Bool.true_eq_false]
        simp (disch := omega) only [↓ce_37 hB', rf_37 hB', ↓nn_39, p_bs, p_rq0, p_rq1, p_rz0, p_rz1, p_us, p_un, p_uj, ↓reduceIte, show (Int32.ofNat 1 = 0) = False from by decide, show (Int32.ofNat 1 = 1) = True from by decide]
        rw [← hI2']
        simp (disch := omega) only [↓ce_36 hB', rf_36 hB', ↓nn_38, ↓nn_40, ↓nn_45, ↓nn_50, ↓nn_52, ↓nn_53, ↓nn_54, ↓nn_56, ↓nn_58, ↓nn_64, ↓nn_67, ↓nn_68, ↓nn_84, p_bs, p_rq0, p_rq1, p_rz0, p_rz1, p_us, p_un, p_uj, ↓reduceIte, j14', p_nns, enO', g3', ob', ewr', u0', etR']
        have hB' := hB1'
        simp (disch := omega) only [↓ce_36 hB', rf_36 hB', ↓nn_38, ↓nn_40, ↓nn_45, ↓nn_50, ↓nn_52, ↓nn_53, ↓nn_54, ↓nn_56, ↓nn_58, ↓nn_64, ↓nn_67, ↓nn_68, ↓nn_84, p_bs, p_rq0, p_rq1, p_rz0, p_rz1, p_us, p_un, p_uj, ↓reduceIte, i14', p_ar]
        rw [hI4']
      -- the reference
      have hS4' : p_S (q_u2 I4' 87 0 0) := fun c' hc' => by rw [p_uc _ _ _ _ _ (by omega), f4' c' (by omega) (by omega) (by omega) (by omega) (by omega)]; exact hS' c' hc'
      have f87' : ∀ j', I4' 87 j' = I' 87 j' := fun j' => by rw [f4' 87 (by omega) (by decide) (by decide) (by decide) (by decide)]
      have f88' : I4' 88 = I' 88 := f4' 88 (by omega) (by decide) (by decide) (by decide) (by decide)
      have g6' : q_u2 I4' 87 0 0 87 6 = Int32.ofNat n' := by rw [p_uj _ _ _ _ _ (by decide), f87']; exact t4'
      obtain ⟨R', r1', r2', r3', r4'⟩ := s_goThrough (β := β) (n' := n') (I' := q_u2 I4' 87 0 0) (X' := X1') (tc' := 88) (bg' := 0) hB1' hS4' (.inl ⟨rfl, rfl⟩) t1' (fun i' hi' => by rw [p_uc _ _ _ _ _ (by decide), f88', Nat.zero_add]; exact t6' i' hi') t2'
      rcases r4' with ⟨x'', q1', -⟩ | ⟨cls'', q1', R11', -⟩
      · rw [e1'] at q1'; cases q1'
      clear q1'
      have R87' : ∀ j', j' ≠ 0 → ¬ (8 ≤ j' ∧ j' ≤ 14) → j' ≠ 17 → R' 87 j' = I' 87 j' := fun j' z1' z2' z3' => by rw [r3' j' z2' z3', p_uj _ _ _ _ _ z1', f87']
      have Rc' : ∀ c', c' ≠ 87 → R' c' = I4' c' := fun c' z1' => by rw [r2' c' z1', p_uc _ _ _ _ _ z1']
      have hf' := s_mfault1 (I1' := q_u2 I4' 87 0 0) (J' := R') (v' := Int32.ofNat n') hB1' g6' (by rw [p_uu]; exact r1')
      obtain ⟨K', k1', k2', k3', k4', k5', k6', k7', k8', k9'⟩ := s_mtext1 (I' := I4') (J' := R') (β := β) (n' := n') hB1' hl4' (by rw [f87']; exact a3') hf' R11' (by rw [R87' 7 (by decide) (by decide) (by decide)]; exact a3') (by rw [R87' 6 (by decide) (by decide) (by decide)]; exact t4') t1' (fun i' hi' => by rw [Rc' 88 (by decide), f88']; exact t6' i' hi') t2'
      have nK' : ∀ c', c' < N' → c' ≠ 36 → c' ≠ 37 → c' ≠ 49 → c' ≠ 50 → c' ≠ 87 → c' ≠ 89 → c' ≠ 90 → K' c' = I' c' := fun c' z' z1' z2' z3' z4' z5' z6' z7' => by rw [k2' c' z5' z6' z7', Rc' c' z5']; exact f4' c' z' z1' z2' z3' z4'
      have bK' : ∀ c', 109 ≤ c' → K' c' = I4' c' := fun c' hc' => by rw [k2' c' (by omega) (by omega) (by omega), Rc' c' (by omega)]
      have K87' : ∀ j', j' ≠ 0 → j' ≠ 6 → j' ≠ 7 → ¬ (8 ≤ j' ∧ j' ≤ 14) → j' ≠ 17 → K' 87 j' = I' 87 j' := fun j' z0' z1' z2' z3' z4' => by rw [k3' j' z1' z2']; exact R87' j' z0' z3' z4'
      have K36' : ∀ j', j' ≠ 14 → K' 36 j' = I' 36 j' := fun j' hj' => by rw [k2' 36 (by decide) (by decide) (by decide), Rc' 36 (by decide)]; exact f36' j' hj'
      have hXE' : p_EX (fun k' j' => (k' = 51 ∧ j' = lc') ∨ (k' = 87 ∧ j' = 5)) X' (p_T X1' 89) := ⟨fun k' hk' => hX1E.1 k' hk', fun k' j' hk' hE' => by rw [p_Tr X1' 89 k' j' (fun e' => hE' (.inr e'))]; exact hX1E.2 k' j' hk' (fun e' => hE' (.inl e'))⟩
      have x51' : (p_T X1' 89).2.1 51 lc' = N' + 1 := by
        rw [p_Tr X1' 89 51 lc' (by omega), hX1']
        show q_u2 Xc'.2.1 51 lc' (N' + 1) 51 lc' = _
        exact p_uS _ _ _ _
      have rN' : ∀ j', (p_T X1' 89).2.1 N' j' = Xc'.2.1 N' j' := fun j' => by
        rw [p_Tr X1' 89 N' j' (by omega), hX1']
        show q_u2 Xc'.2.1 51 lc' (N' + 1) N' j' = _
        rw [p_uN _ _ _ _ _ _ (by omega)]
      have sN' : ∀ k' : Nat, (p_T X1' 89).2.2[k']? = Xc'.2.2[k']? := fun k' => by
        show X1'.2.2[k']? = _
        rw [hX1']
      have xN' : t_LO N' cdx'.length (p_T X1' 89) := by
        refine ⟨by rw [sN', shC' N' (by omega), shB' N' (by omega)]; exact shN', by rw [rN']; exact u4', by rw [rN']; exact u5', ?_, ?_, by omega, e4'⟩
        · rw [sN', shC' (N' + 1) (by omega), y3', List.getElem?_append_right (by omega), lenA, Nat.sub_self]; rfl
        · rw [sN', u2', List.getElem?_append_right (by omega), lenB, Nat.sub_self]; rfl
      obtain ⟨lw'', hlw''⟩ : ∃ f' : Nat → Nat, f' = fun i' => if i' = lc' then N' else lwf' i' := ⟨_, rfl⟩
      have lwO' : ∀ i', i' < lc' → lw'' i' = lwf' i' := fun i' hi' => by rw [hlw'']; exact if_neg (by omega)
      have lwL' : lw'' lc' = N' := by rw [hlw'']; exact if_pos rfl
      have oK' : ∀ c', 109 ≤ c' → c' < N' → K' c' = I' c' := fun c' z1' z2' => by rw [bK' c' z1']; exact f4' c' z2' (by omega) (by omega) (by omega) (by omega)
      refine ⟨Int32.ofNat lc', I4', K', X1', p_T X1' 89, (H', hz', D', lc' + 1, lw'', wc', wkf'), hclass, k1', ?_⟩
      unfold v_V
      simp only
      refine ⟨p_BT hB1' 89, fun c' hc' => by rw [nK' c' (by omega) (by omega) (by omega) (by omega) (by omega) (by omega) (by omega) (by omega)]; exact hS' c' hc', ⟨fun _ => 0, 0, by omega, fun i' hi' => absurd hi' (by omega), ?_, k4', fun i' hi' => absurd hi' (by omega), fun i' hi' => absurd hi' (by omega)⟩, ?_, ?_, ?_, ?_, ?_, ?_, ?_, ?_, ?_, ?_⟩
      · rw [k2' 37 (by decide) (by decide) (by decide), Rc' 37 (by decide)]; exact g37'
      · exact v_Hk hH' (K36' 18 (by decide)) (fun c' h1' h2' => nK' c' (by omega) (by omega) (by omega) (by omega) (by omega) (by omega) (by omega) (by omega)) (nK' _ (by omega) (by decide) (by decide) (by decide) (by decide) (by decide) (by decide) (by decide)) (nK' _ (by omega) (by decide) (by decide) (by decide) (by decide) (by decide) (by decide) (by decide)) (nK' _ (by omega) (by decide) (by decide) (by decide) (by decide) (by decide) (by decide) (by decide)) (K87' 26 (by decide) (by decide) (by decide) (by decide) (by decide)) (K87' 27 (by decide) (by decide) (by decide) (by decide) (by decide))
      · exact v_Nk hN' (nK' _ (by omega) (by decide) (by decide) (by decide) (by decide) (by decide) (by decide) (by decide)) (nK' _ (by omega) (by decide) (by decide) (by decide) (by decide) (by decide) (by decide) (by decide)) (nK' _ (by omega) (by decide) (by decide) (by decide) (by decide) (by decide) (by decide) (by decide))
      · exact v_Pk hP' (by rw [nK' 57 (by omega) (by decide) (by decide) (by decide) (by decide) (by decide) (by decide) (by decide)]) (by rw [nK' 57 (by omega) (by decide) (by decide) (by decide) (by decide) (by decide) (by decide) (by decide)]) (nK' _ (by omega) (by decide) (by decide) (by decide) (by decide) (by decide) (by decide) (by decide)) (nK' _ (by omega) (by decide) (by decide) (by decide) (by decide) (by decide) (by decide) (by decide)) (nK' _ (by omega) (by decide) (by decide) (by decide) (by decide) (by decide) (by decide) (by decide)) (K87' 42 (by decide) (by decide) (by decide) (by decide) (by decide))
      · exact v_Gk hG' (by rw [nK' 57 (by omega) (by decide) (by decide) (by decide) (by decide) (by decide) (by decide) (by decide)]) (nK' _ (by omega) (by decide) (by decide) (by decide) (by decide) (by decide) (by decide) (by decide)) (nK' _ (by omega) (by decide) (by decide) (by decide) (by decide) (by decide) (by decide) (by decide)) (nK' _ (by omega) (by decide) (by decide) (by decide) (by decide) (by decide) (by decide) (by decide)) (K87' 49 (by decide) (by decide) (by decide) (by decide) (by decide))
      · exact v_Ck hC' (by rw [nK' 83 (by omega) (by decide) (by decide) (by decide) (by decide) (by decide) (by decide) (by decide)]) (nK' _ (by omega) (by decide) (by decide) (by decide) (by decide) (by decide) (by decide) (by decide)) (nK' _ (by omega) (by decide) (by decide) (by decide) (by decide) (by decide) (by decide) (by decide)) (K87' 45 (by decide) (by decide) (by decide) (by decide) (by decide))
      · refine ⟨by omega, by rw [k2' 36 (by decide) (by decide) (by decide), Rc' 36 (by decide), hI4']; exact p_us _ _ _ _, k5', fun i' hi' => ?_⟩
        by_cases e' : i' = lc'
        · subst e'
          rw [lwL']
          refine ⟨β, n', cls', x51', by rw [hcode]; exact xN', fun j' hj' => ?_, e6', e1', t1', t2', k7', k9'⟩
          rw [hcode] at hj' ⊢
          rw [bK' (N' + 1) (by omega)]
          exact gN' j' hj'
        · have hi'' : i' < lc' := by omega
          rw [lwO' i' hi'']
          obtain ⟨β', n'', cls'', b1', b2', b3', b4', b5', b6', b7', b8', b9'⟩ := a4' i' hi''
          have h9' := b2'.2.2.2.2.2.1
          have hlN' := llN' i' hi''
          refine ⟨β', n'', cls'', by rw [hXE'.2 51 i' (by omega) (by omega)]; exact b1', t_LOE b2' hXE' (fun j' e' => by omega), by rw [oK' (lwf' i' + 1) (by omega) (by omega)]; exact b3', b4', b5', b6', b7', fun j' hj' => ?_, ?_⟩
          · rw [k6' _ (by omega), Rc' 89 (by decide), f4' 89 (by omega) (by decide) (by decide) (by decide) (by decide)]; exact b8' j' hj'
          · rw [k8' i' e', Rc' 90 (by decide), f4' 90 (by omega) (by decide) (by decide) (by decide) (by decide)]; exact b9'
      · have e63' : (p_T X1' 89).2.1 63 3 = X'.2.1 63 3 := hXE'.2 63 3 (by omega) (by omega)
        unfold v_LH
        rw [K36' 16 (by decide), K87' 34 (by decide) (by decide) (by decide) (by decide) (by decide), e63']
        rcases hLH' with hh' | ⟨i', hi', hh1', hh2', hh3'⟩
        · exact .inl hh'
        · exact .inr ⟨i', by omega, hh1', hh2', by rw [lwO' i' hi']; exact hh3'⟩
      · refine ⟨w1', by rw [K36' 15 (by decide)]; exact w2', by rw [K87' 30 (by decide) (by decide) (by decide) (by decide) (by decide)]; exact w3', fun i' hi' => ?_, by rw [hXE'.2 36 13 (by omega) (by omega)]; exact w5', fun i' hi' => ?_⟩
        · have h9' := (w4' i' hi').2.2.2
          exact t_WSE (w4' i' hi') hXE' (fun j' e' => by omega)
        · obtain ⟨o1', sz', o2', o3', o4', o5', o6'⟩ := w6' i' hi'
          have h9' := (w4' i' (by omega)).2.2.2
          have hiN' := lwN' i' (by omega)
          have eK' : ∀ c', c' = wkf' i' ∨ c' = wkf' i' + 1 → K' c' = I' c' := fun c' hc' => nK' c' (by omega) (by omega) (by omega) (by omega) (by omega) (by omega) (by omega) (by omega)
          exact ⟨by rw [hXE'.2 52 i' (by omega) (by omega)]; exact o1', sz', o2', by rw [eK' _ (.inl rfl)]; exact o3', by rw [nK' 99 (by omega) (by decide) (by decide) (by decide) (by decide) (by decide) (by decide) (by decide)]; exact o4', fun j' hj' => by rw [nK' 98 (by omega) (by decide) (by decide) (by decide) (by decide) (by decide) (by decide) (by decide), eK' _ (.inr rfl)]; exact o5' j' hj', by rw [eK' _ (.inr rfl)]; exact o6'⟩
      · obtain ⟨d1', d2', d3'⟩ := hD'
        refine ⟨fun i' j' hi' hj' hij' => ?_, d2', fun i' j' hi' hj' => ?_⟩
        · by_cases ei' : i' = lc'
          · rw [ei', lwL', lwO' j' (by omega)]
            have := llN' j' (by omega)
            omega
          · by_cases ej' : j' = lc'
            · rw [ej', lwL', lwO' i' (by omega)]
              have := llN' i' (by omega)
              omega
            · rw [lwO' i' (by omega), lwO' j' (by omega)]
              exact d1' i' j' (by omega) (by omega) hij'
        · by_cases ei' : i' = lc'
          · rw [ei', lwL']
            have := lwN' j' hj'
            omega
          · rw [lwO' i' (by omega)]
            exact d3' i' j' (by omega) hj'
      · exact v_Fk hF' (K36' 17 (by decide)) (K87' 35 (by decide) (by decide) (by decide) (by decide) (by decide))
  · have hroom : F_X11_hasRoomFor 36 (Int32.ofNat 1) (I', X') = some 0 := by
      unfold F_X11_hasRoomFor
      simp (disch := omega) only [↓ce_36 hB', rf_36 hB', ↓nn_38, ↓nn_40, ↓nn_45, ↓nn_50, ↓nn_52, ↓nn_53, ↓nn_54, ↓nn_56, ↓nn_58, ↓nn_64, ↓nn_67, ↓nn_68, ↓nn_84, p_bs, p_rq0, p_rq1, p_rz0, p_rz1, p_us, p_un, p_uj, ↓reduceIte, show (Int32.ofNat 1 = 1) = True from by decide, a2', hlt4', hl4']
    have e4' : lc' = 4 := by omega
    subst e4'
    refine ⟨-1, I', q_u2 I' 87 0 0, X', X', (H', hz', D', 4, lwf', wc', wkf'), ?_, ?_, v_thr h'⟩
    · unfold F_X11_text
      simp (disch := omega) only [↓ce_36 hB', rf_36 hB', ↓nn_38, ↓nn_40, ↓nn_45, ↓nn_50, ↓nn_52, ↓nn_53, ↓nn_54, ↓nn_56, ↓nn_58, ↓nn_64, ↓nn_67, ↓nn_68, ↓nn_84, p_bs, p_rq0, p_rq1, p_rz0, p_rz1, p_us, p_un, p_uj, ↓reduceIte, show (Int32.ofNat 1 < 0) = False from by decide, show (2 < Int32.ofNat 1) = False from by decide, hroom]
    · unfold F_X12_text
      simp (disch := omega) only [↓ce_87 hB', rf_87 hB', ↓nn_31, ↓nn_33, ↓nn_89, ↓nn_90, ↓nn_91, ↓nn_92, ↓nn_93, ↓nn_94, ↓nn_95, ↓nn_96, ↓nn_97, ↓nn_98, ↓nn_99, ↓nn_100, ↓nn_101, ↓nn_102, ↓nn_103, ↓nn_104, ↓nn_105, ↓nn_106, ↓nn_107, ↓nn_108, p_bs, p_rq0, p_rq1, p_rz0, p_rz1, p_us, p_un, p_uj, ↓reduceIte, hin', hr', t_b0, Bool.true_eq_false, show (Int32.ofNat 1 = 1) = True from by decide, h7'', a3', show (Int32.ofNat 4 = 4) = True from by decide]
theorem m_text (h' : v_V A' I' X') (l' : Int32) : ∃ r' I1' J' X1' X2' A'', F_X11_text 36 l' (I', X') = some (r', (I1', X1')) ∧ F_X12_text 87 l' (I1', X1') = some (r', (J', X2')) ∧ v_V A'' J' X2' := by
  have hB' := h'.1
  cases hr' : t_inr l' 3
  · have hin' : ∀ M' : q_Mem, F_X12_isIn l'.toInt64 0 2 M' = some (t_b (t_inr l' 3)) := fun M' => s_isInT l' 2 (by decide) 0 2 rfl rfl M'
    have key' : ∀ o' : Option (Int32 × q_Mem), (if l' < 0 then some ((-1 : Int32), (I', X')) else if 2 < l' then some ((-1 : Int32), (I', X')) else o') = some (-1, (I', X')) := fun o' => by
      rw [t_if20 l' 2 2 (by decide) rfl, hr']; simp
    refine ⟨-1, I', _, X', X', A', ?_, ?_, v_thr h'⟩
    · unfold F_X11_text
      exact key' _
    · unfold F_X12_text
      simp (disch := omega) only [↓ce_87 hB', rf_87 hB', ↓nn_31, ↓nn_33, ↓nn_89, ↓nn_90, ↓nn_91, ↓nn_92, ↓nn_93, ↓nn_94, ↓nn_95, ↓nn_96, ↓nn_97, ↓nn_98, ↓nn_99, ↓nn_100, ↓nn_101, ↓nn_102, ↓nn_103, ↓nn_104, ↓nn_105, ↓nn_106, ↓nn_107, ↓nn_108, p_bs, p_rq0, p_rq1, p_rz0, p_rz1, p_us, p_un, p_uj, ↓reduceIte, hin', hr', t_b0]
  · obtain ⟨q', hq', rfl⟩ := t_inrE (by decide) hr'
    have ho' : q' = 0 ∨ q' = 1 ∨ q' = 2 := by omega
    rcases ho' with rfl | rfl | rfl
    · exact m_text0 h'
    · exact m_text1 h'
    · exact m_text2 h'
end PT'
