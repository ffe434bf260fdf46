/-! text: a house, both sides -/
section PT'
variable {A' : v_A} {X' : p_X} {I' : p_I}
theorem m_text0 (h' : v_V A' I' X') : ∃ r' I1' J' X1' X2' A'', F_X11_text 36 (Int32.ofNat 0) (I', X') = some (r', (I1', X1')) ∧ F_X12_text 87 (Int32.ofNat 0) (I1', X1') = some (r', (J', X2')) ∧ v_V A'' J' X2' := by
  have hk' := v_keep h' (t_SCr X' I') 89
  obtain ⟨hB', hS', hT', hH', hN', hP', hG', hC', hL', hLH', hW', hD', hF'⟩ := id h'
  obtain ⟨-, -, -, -, -, -, -, -, hL'', hLH'', hW'', -, -⟩ := hk'
  obtain ⟨H', hz', D', lc', lwf', wc', wkf'⟩ := A'
  simp only at *
  have hin' : ∀ M' : q_Mem, F_X12_isIn (Int32.ofNat 0).toInt64 0 2 M' = some (t_b (t_inr (Int32.ofNat 0) 3)) := fun M' => s_isInT _ 2 (by decide) 0 2 rfl rfl M'
  have hr' : t_inr (Int32.ofNat 0) 3 = true := by decide
  have hroom : F_X11_hasRoomFor 36 (Int32.ofNat 0) (I', X') = some 1 := by
    unfold F_X11_hasRoomFor
    simp (disch := omega) only [↓ce_36 hB', rf_36 hB', ↓nn_38, ↓nn_40, ↓nn_45, ↓nn_50, ↓nn_52, ↓nn_53, ↓nn_54, ↓nn_56, ↓nn_58, ↓nn_64, ↓nn_67, ↓nn_68, ↓nn_84, p_bs, p_rq0, p_rq1, p_rz0, p_rz1, p_us, p_un, p_uj, ↓reduceIte, show (Int32.ofNat 0 = 1) = False from by decide, show (Int32.ofNat 0 = 2) = False from by decide]
  obtain ⟨ok', x', I1', J', c1', c2', c3', c4', c5', c6', c7', c8', c9', c10', c11'⟩ := v_rdH h'
  cases ok'
  · have hxn' : (Int32.ofNat x' = -1) = False := p_ofN1 x' (by omega)
    simp only [Bool.false_eq_true, ↓reduceIte] at c9'
    have hf' := s_mfault0 (I1' := q_u2 I1' 87 0 0) hB' (by rw [p_uu]; exact c2')
    rw [c9'] at hf'
    refine ⟨-1, I1', J', X', p_T X' 89, (H', hz', D', lc', lwf', wc', wkf'), ?_, ?_, ?_⟩
    · unfold F_X11_text
      simp (disch := omega) only [↓ce_36 hB', rf_36 hB', ↓nn_38, ↓nn_40, ↓nn_45, ↓nn_50, ↓nn_52, ↓nn_53, ↓nn_54, ↓nn_56, ↓nn_58, ↓nn_64, ↓nn_67, ↓nn_68, ↓nn_84, p_bs, p_rq0, p_rq1, p_rz0, p_rz1, p_us, p_un, p_uj, ↓reduceIte, show (Int32.ofNat 0 < 0) = False from by decide, show (2 < Int32.ofNat 0) = False from by decide, hroom, show ((1 : Int32) = 0) = False from by decide]
      have c1'' : F_X11_readTape 36 (Int32.ofNat 0) (I', X') = some (t_b false, (I1', X')) := c1'
      simp (disch := omega) only [↓ce_36 hB', rf_36 hB', ↓nn_38, ↓nn_40, ↓nn_45, ↓nn_50, ↓nn_52, ↓nn_53, ↓nn_54, ↓nn_56, ↓nn_58, ↓nn_64, ↓nn_67, ↓nn_68, ↓nn_84, p_bs, p_rq0, p_rq1, p_rz0, p_rz1, p_us, p_un, p_uj, ↓reduceIte, c1'', t_b0]
    · unfold F_X12_text J_X12_text_30 J_X12_text_43
      simp (disch := omega) only [↓ce_87 hB', rf_87 hB', ↓nn_31, ↓nn_33, ↓nn_89, ↓nn_90, ↓nn_91, ↓nn_92, ↓nn_93, ↓nn_94, ↓nn_95, ↓nn_96, ↓nn_97, ↓nn_98, ↓nn_99, ↓nn_100, ↓nn_101, ↓nn_102, ↓nn_103, ↓nn_104, ↓nn_105, ↓nn_106, ↓nn_107, ↓nn_108, p_bs, p_rq0, p_rq1, p_rz0, p_rz1, p_us, p_un, p_uj, ↓reduceIte, hin', hr', t_b0, Bool.true_eq_false, show (Int32.ofNat 0 = 1) = False from by decide, show (Int32.ofNat 0 = 2) = False from by decide, hf', hxn']
    · exact v_keep h' ⟨fun c' z1' z2' => by rw [c7' c' (by omega) (by omega) (by omega) (by omega)]; exact c3' c' (by omega) (by omega), by rw [c7' 37 (by decide) (by decide) (by decide) (by decide)]; exact c4' 1 (by decide) (by decide), fun j' z1' z2' z3' z4' z5' z6' z7' => by rw [c8' j' z4' (by omega) z5' z6' z7', c3' 87 (by decide) (by decide)], fun j' _ => by rw [c7' 98 (by decide) (by decide) (by decide) (by decide), c3' 98 (by decide) (by decide)], fun j' _ => by rw [c7' 99 (by decide) (by decide) (by decide) (by decide), c3' 99 (by decide) (by decide)], fun c' z1' z2' z3' z4' => by rw [c7' c' (by omega) (by omega) (by omega) (by omega)]; exact c3' c' (by omega) (by omega)⟩ 89
  · obtain ⟨β, n', hs', K0', -, ⟨t1', t2', t4', t6'⟩, hhou, ⟨e', hCH'⟩, -⟩ := c11' rfl
    obtain ⟨hGH', hnd0', hng0'⟩ := t_houB _ _ _ _ (Nat.zero_le n') hhou yq_GH0
    have hnd5' := hGH'.2.2.2.1
    have hng6' := hGH'.2.2.2.2
    clear c2' c6' c7' c8' c9' c10' c11' c5'
    -- the class
    obtain ⟨I2', hI2'⟩ : ∃ M', M' = q_u2 I1' 37 1 0 := ⟨_, rfl⟩
    have f2' : ∀ c', c' ≠ 37 → I2' c' = I1' c' := fun c' hc' => by rw [hI2']; exact p_uc _ _ _ _ _ hc'
    have f2I : ∀ c', c' ≠ 37 → ¬ (44 ≤ c' ∧ c' ≤ 47) → I2' c' = I' c' := fun c' z1' z2' => by rw [f2' c' z1']; exact c3' c' z1' z2'
    have hCH2' : t_CH I2' e' hs' I2' := by
      obtain ⟨b1', b2', b3', b4', b5', b6', b7', b8', b9', b10', b11', b12'⟩ := hCH'
      refine ⟨fun _ _ _ => rfl, fun _ _ _ => rfl, by rw [hI2', p_uj _ _ _ _ _ (by decide)]; exact b3', ?_, ?_, ?_, ?_, ?_, ?_, b10', b11', fun _ _ => rfl⟩
      · rw [f2' 45 (by decide)]; exact b4'
      · rw [f2' 46 (by decide)]; exact b5'
      · rw [f2' 47 (by decide)]; exact b6'
      · rw [f2' 44 (by decide)]; exact b7'
      · rw [f2' 44 (by decide)]; exact b8'
      · rw [f2' 44 (by decide)]; exact b9'
    have h21' : I2' 2 1 = 20 := by rw [f2I 2 (by decide) (by decide), hS' 2 (by decide)]; decide
    obtain ⟨I3', ho', m1', m2', m3', m4', m5', m6', m7', m8', m9', m10', m11', m12', m13', m14', m15', m16', m17', m18', m19', m20'⟩ := s_moveIn hB' h21' hGH' hCH2'
    have f3' : ∀ c', ¬ (36 ≤ c' ∧ c' ≤ 47) → c' ≠ 54 → c' ≠ 57 → c' ≠ 83 → I3' c' = I' c' := fun c' z1' z2' z3' z4' => by rw [m2' c' (by omega) (by omega) z2' z3' z4']; exact f2I c' (by omega) (by omega)
    have hclass : F_X11_text 36 (Int32.ofNat 0) (I', X') = some (Int32.ofNat hs'.2.2.2.2.1, (I3', X')) := by
      unfold F_X11_text
      simp (disch := omega) only [↓ce_36 hB', rf_36 hB', ↓nn_38, ↓nn_40, ↓nn_45, ↓nn_50, ↓nn_52, ↓nn_53, ↓nn_54, ↓nn_56, ↓nn_58, ↓nn_64, ↓nn_67, ↓nn_68, ↓nn_84, p_bs, p_rq0, p_rq1, p_rz0, p_rz1, p_us, p_un, p_uj, ↓reduceIte, show (Int32.ofNat 0 < 0) = False from by decide, show (2 < Int32.ofNat 0) = False from by decide, hroom, show ((1 : Int32) = 0) = False from by decide]
      have c1'' : F_X11_readTape 36 (Int32.ofNat 0) (I', X') = some (t_b true, (I1', X')) := c1'
      simp (disch := omega) only [↓ce_36 hB', rf_36 hB', ↓ce_37 hB', rf_37 hB', ↓nn_38, ↓nn_39, ↓nn_40, ↓nn_45, ↓nn_50, ↓nn_52, ↓nn_53, ↓nn_54, ↓nn_56, ↓nn_58, ↓nn_64, ↓nn_67, ↓nn_68, ↓nn_84, p_bs, p_rq0, p_rq1, p_rz0, p_rz1, p_us, p_un, p_uj, ↓reduceIte, c1'', t_b0, Bool.true_eq_false]
      rw [← hI2']
      simp (disch := omega) only [↓ce_36 hB', rf_36 hB', ↓nn_38, ↓nn_40, ↓nn_45, ↓nn_50, ↓nn_52, ↓nn_53, ↓nn_54, ↓nn_56, ↓nn_58, ↓nn_64, ↓nn_67, ↓nn_68, ↓nn_84, p_bs, p_rq0, p_rq1, p_rz0, p_rz1, p_us, p_un, p_uj, ↓reduceIte, show (Int32.ofNat 0 = 0) = True from by decide, m1']
    -- the reference
    have g3' : ∀ c', c' ≠ 87 → q_u2 I3' 87 0 0 c' = I3' c' := fun c' hc' => p_uc _ _ _ _ _ hc'
    obtain ⟨J1', d1', d2'⟩ := s_readHouse (I' := q_u2 I3' 87 0 0) (β := β) (n' := n') hB' (fun c' hc' => by rw [g3' c' (by omega), f3' c' (by omega) (by omega) (by omega) (by omega)]; exact hS' c' hc') (by rw [p_uj _ _ _ _ _ (by decide), f3' 87 (by decide) (by decide) (by decide) (by decide)]; exact t4') t1' (fun i' hi' => by rw [g3' 88 (by decide), f3' 88 (by decide) (by decide) (by decide) (by decide)]; exact t6' i' hi') t2'
    rcases d2' with ⟨x'', e1', -⟩ | ⟨x'', hs'', e1', hMH'⟩
    · rw [hhou] at e1'; cases e1'
    rw [hhou] at e1'
    cases e1'
    obtain ⟨b1', b2', b3'⟩ := t_Ib87 (q_u2 I3' 87 0 0) 0 (q_u2 I3' 87 0 0 87 6)
    obtain ⟨q1', q2', -, q4', q5', q6', q7', q8', q9', -, -⟩ := hMH'
    have j11' : J1' 87 11 = -1 := by rw [q2' 11 (by decide) (by decide) (by decide) (by decide)]; exact b3'
    have hf' := s_mfault0 (I1' := q_u2 I3' 87 0 0) hB' (by rw [p_uu]; exact d1')
    obtain ⟨K', k1', k2', k3', k4', k5', k6', k7', k8', k9', k10', k11', k12', k13', k14', k15', k16'⟩ := s_mtext0 (I' := I3') hB' hng6' hf' j11' q7' q8'
    have fJ' : ∀ c', c' ≠ 87 → c' ≠ 93 → c' ≠ 95 → c' ≠ 97 → J1' c' = I3' c' := fun c' z1' z2' z3' z4' => by rw [q1' c' z1' z2' z3' z4', b1' c' z1']; exact g3' c' z1'
    have fK' : ∀ c', c' ≠ 87 → ¬ (92 ≤ c' ∧ c' ≤ 97) → c' ≠ 100 → K' c' = I3' c' := fun c' z1' z2' z3' => by rw [k2' c' z1' (by omega) (by omega) (by omega) z3']; exact fJ' c' z1' (by omega) (by omega) (by omega)
    have nK' : ∀ c', ¬ (36 ≤ c' ∧ c' ≤ 47) → c' ≠ 54 → c' ≠ 57 → c' ≠ 83 → c' ≠ 87 → ¬ (92 ≤ c' ∧ c' ≤ 97) → c' ≠ 100 → K' c' = I' c' := fun c' z1' z2' z3' z4' z5' z6' z7' => by rw [fK' c' z5' z6' z7']; exact f3' c' z1' z2' z3' z4'
    have K36' : ∀ j', j' ≠ 18 → K' 36 j' = I' 36 j' := fun j' hj' => by rw [fK' 36 (by decide) (by decide) (by decide), m3' j' hj', f2I 36 (by decide) (by decide)]
    have K87' : ∀ j', j' = 7 ∨ j' = 30 ∨ j' = 34 ∨ j' = 35 → K' 87 j' = I' 87 j' := fun j' hj' => by rw [k3' j' (by omega) (by omega) (by omega) (by omega) (by omega) (by omega), q2' j' (by omega) (by omega) (by omega) (by omega), b2' j' (by omega), p_uj _ _ _ _ _ (by omega), f3' 87 (by decide) (by decide) (by decide) (by decide)]
    have e40' : K' 40 = I3' 40 := fK' 40 (by decide) (by decide) (by decide)
    have e41' : K' 41 = I3' 41 := fK' 41 (by decide) (by decide) (by decide)
    have e42' : K' 42 = I3' 42 := fK' 42 (by decide) (by decide) (by decide)
    have e54' : K' 54 = I3' 54 := fK' 54 (by decide) (by decide) (by decide)
    obtain ⟨oo1', oo2', oo3', oo4'⟩ := m15'
    obtain ⟨⟨r1', r2'⟩, r3', r4', -, -⟩ := hGH'
    obtain ⟨H'', hH''⟩ : ∃ H'' : t_H, H'' = (I3' 40, I3' 41, I3' 42, ho', hs'.2.2.2.1, hs'.2.2.2.2.1) := ⟨_, rfl⟩
    have u1' : t_hr H'' = I3' 40 := by rw [hH'']; rfl
    have u2' : t_hd H'' = I3' 41 := by rw [hH'']; rfl
    have u3' : t_hg H'' = I3' 42 := by rw [hH'']; rfl
    have u4' : t_ho H'' = ho' := by rw [hH'']; rfl
    have u5' : t_nd H'' = hs'.2.2.2.1 := by rw [hH'']; rfl
    have u6' : t_ng H'' = hs'.2.2.2.2.1 := by rw [hH'']; rfl
    have hcm' : ∀ g', g' < hs'.2.2.2.2.1 → t_hg H'' (g' * 4) = Int32.ofNat (hs'.2.2.1 (4 * g')) := fun g' hg' => by rw [u3', Nat.mul_comm, m13' _ (by omega)]
    have hcm'' : ∀ g', g' < hs'.2.2.2.2.1 → t_cm H'' g' = hs'.2.2.1 (4 * g') := fun g' hg' => by
      unfold t_cm
      rw [hcm' g' hg']
      have := (r4' g' hg').1
      exact p_nat _ (by omega)
    have hHW' : t_HW H'' := by
      unfold t_HW
      rw [u4', u5', u6']
      refine ⟨hnd0', hnd5', hng0', hng6', fun i' hi' => (oo2' i' hi').1, fun i' j' hij' hj' => ?_, fun g' hg' => ?_, fun g' hg' => ⟨_, hcm' g' hg', (r4' g' hg').1⟩, fun g' hg' => ⟨_, by rw [u3', Nat.mul_comm g' 4, m13' _ (by omega)], (r4' g' hg').2.2⟩, fun d' hd' => ⟨_, by rw [u2', Nat.mul_comm d' 3, m12' _ (by omega)], (r3' d' hd').1⟩, ⟨_, by rw [u1', m11' 1 (by decide)], r2'⟩, fun d' hd' => ⟨_, by rw [u2', Nat.mul_comm d' 3, m12' _ (by omega)], (r3' d' hd').2⟩⟩
      · unfold t_pr
        rw [hcm'' _ (oo2' i' (by omega)).1, hcm'' _ (oo2' j' hj').1]
        exact oo3' i' j' hij' hj'
      · refine oo4' g' hg' ?_
        have := (r4' g' hg').1
        unfold yq_ah
        simp
        omega
    have s0' : ∀ j', j' < 31 → j' ≠ 1 → j' ≠ 2 → j' ≠ 3 → ¬ (13 ≤ j' ∧ j' < 25) → I3' 54 j' = 0 := fun j' z1' z2' z3' z4' z5' => m20' j' z1' z2' z3' z4' (fun ⟨g', h1', h2'⟩ => by omega)
    have s13' : ∀ g', g' < 6 → (g' < hs'.2.2.2.2.1 → I3' 54 (13 + g') = Int32.ofNat (hs'.2.2.1 (4 * g' + 1)) ∧ I3' 54 (19 + g') = Int32.ofNat (hs'.2.2.1 (4 * g' + 2))) ∧ (¬ g' < hs'.2.2.2.2.1 → I3' 54 (13 + g') = 0 ∧ I3' 54 (19 + g') = 0) := fun g' hg' => ⟨m16' g', fun hn' => ⟨m20' _ (by omega) (by omega) (by omega) (by omega) (fun ⟨g'', h1', h2'⟩ => by omega), m20' _ (by omega) (by omega) (by omega) (by omega) (fun ⟨g'', h1', h2'⟩ => by omega)⟩⟩
    have s99' : ∀ g', g' < 6 → ∃ n', I3' 54 (13 + g') = Int32.ofNat n' ∧ n' ≤ 20 := fun g' hg' => by
      by_cases hn' : g' < hs'.2.2.2.2.1
      · exact ⟨_, ((s13' g' hg').1 hn').1, (r4' g' hn').2.1⟩
      · exact ⟨0, ((s13' g' hg').2 hn').1, by omega⟩
    have w0' : ∀ j', j' < 217 → j' ≠ 32 → j' ≠ 33 → ¬ (j' < 24 ∧ j' % 4 < 2) → K' 100 j' = 0 := fun j' z1' z2' z3' z4' => k16' j' z1' z2' z3' (fun ⟨g', h1', h2'⟩ => by omega)
    have hR' : v_R H'' (K' 54) (K' 100) (K' 59) 0 := by
      rw [e54']
      refine ⟨⟨⟨0, s0' 0 (by decide) (by decide) (by decide) (by decide) (by decide), by omega⟩, ⟨_, m17', r1'⟩, .inl m19', fun j' hj' => ⟨0, s0' _ (by omega) (by omega) (by omega) (by omega) (by omega), by rw [u5']; exact hnd0'⟩, fun j' hj' => ⟨0, s0' _ (by omega) (by omega) (by omega) (by omega) (by omega), by omega⟩, fun g' hg' => ?_, ⟨fun _ => false, by rw [s0' 4 (by decide) (by decide) (by decide) (by decide) (by decide)]; decide, fun _ _ => rfl⟩, fun g' _ hg' => ?_⟩, ⟨⟨fun g' hg' => ?_, ?_, ?_, ?_⟩, fun j' hj' => ?_, ?_⟩, s0' 0 (by decide) (by decide) (by decide) (by decide) (by decide), by omega, fun g' hg' => ?_, ?_, fun i' hi' => absurd hi' (by omega)⟩
      · obtain ⟨n'', h1', h2'⟩ := s99' g' hg'
        exact ⟨n'', h1', by omega⟩
      · have : I3' 54 (25 + g') = 0 := s0' _ (by omega) (by omega) (by omega) (by omega) (by omega)
        rw [this]
        exact ⟨fun _ => rfl, by decide, by decide⟩
      · have hb' : t_bit (I3' 54 4) g' = false := by
          rw [s0' 4 (by decide) (by decide) (by decide) (by decide) (by decide), show (0 : Int32) = t_B (fun _ => false) from by decide, t_BA _ _ hg']
        rw [hb']
        refine ⟨?_, ?_, ?_, ?_⟩
        · by_cases hn' : g' < hs'.2.2.2.2.1
          · rw [(k13' g' hn').1, q6' _ (by omega), ((s13' g' hg').1 hn').1]
          · rw [((s13' g' hg').2 hn').1]
            exact k16' _ (by omega) (by omega) (by omega) (fun ⟨g'', h1', h2'⟩ => by omega)
        · by_cases hn' : g' < hs'.2.2.2.2.1
          · rw [(k13' g' hn').2, q6' _ (by omega), ((s13' g' hg').1 hn').2]
          · rw [((s13' g' hg').2 hn').2]
            exact k16' _ (by omega) (by omega) (by omega) (fun ⟨g'', h1', h2'⟩ => by omega)
        · rw [w0' _ (by omega) (by omega) (by omega) (by omega), s0' _ (by omega) (by omega) (by omega) (by omega) (by omega)]
        · rw [w0' _ (by omega) (by omega) (by omega) (by omega)]; rfl
      · rw [k14', q4' 0 (by decide), m17']
      · rw [w0' 34 (by decide) (by decide) (by decide) (by decide), m19']; decide
      · rw [w0' 35 (by decide) (by decide) (by decide) (by decide), s0' 0 (by decide) (by decide) (by decide) (by decide) (by decide)]
      · rw [w0' _ (by omega) (by omega) (by omega) (by omega), w0' _ (by omega) (by omega) (by omega) (by omega), s0' _ (by omega) (by omega) (by omega) (by omega) (by omega), s0' _ (by omega) (by omega) (by omega) (by omega) (by omega)]
        exact ⟨rfl, rfl⟩
      · rw [k15', q4' 2 (by decide), m18']
      · obtain ⟨n'', h1', h2'⟩ := s99' g' hg'
        exact ⟨n'', h1', by omega⟩
      · rw [w0' 36 (by decide) (by decide) (by decide) (by decide)]; decide
    refine ⟨Int32.ofNat hs'.2.2.2.2.1, I3', K', X', p_T X' 89, (H'', true, 0, lc', lwf', wc', wkf'), hclass, k1', ?_⟩
    obtain ⟨kk', mm', dd', p1', p2', p3', p4', -⟩ := hP'
    unfold v_V
    simp only
    refine ⟨p_BT hB' 89, fun c' hc' => by rw [nK' c' (by omega) (by omega) (by omega) (by omega) (by omega) (by omega) (by omega)]; exact hS' c' hc', ⟨fun _ => 0, 0, by omega, fun i' hi' => absurd hi' (by omega), ?_, k4', fun i' hi' => absurd hi' (by omega), fun i' hi' => absurd hi' (by omega)⟩, ⟨by rw [fK' 36 (by decide) (by decide) (by decide)]; exact m4', ⟨by rw [u1']; exact e40', by rw [u2']; exact e41', by rw [u3']; exact e42', ?_, ?_, ?_, by rw [u5']; exact hnd5', by rw [u6']; exact hng6'⟩, ⟨?_, ?_, ?_, by rw [u5']; exact k5', by rw [u6']; exact k6'⟩, fun _ => hHW', fun e' => absurd e' (by decide)⟩, ⟨fun _ => hR', fun e' => absurd e' (by decide)⟩, ⟨0, mm', fun _ => 0, by omega, p2', ?_, ?_, k7', fun e' => absurd e' (by decide), rfl, fun j' hj' => absurd hj' (by omega)⟩, ⟨false, ?_, k9', fun e' => absurd e' (by decide)⟩, ⟨0, by omega, ?_, k8', fun j' hj' => absurd hj' (by omega), fun j' hj' => absurd hj' (by omega)⟩, ?_, ?_, ?_, hD', v_Fk hF' (K36' 17 (by decide)) (K87' 35 (by decide))⟩
    · rw [fK' 37 (by decide) (by decide) (by decide), m2' 37 (by decide) (by decide) (by decide) (by decide) (by decide), hI2']; exact p_us _ _ _ _
    · rw [u4', u6', fK' 43 (by decide) (by decide) (by decide)]
      exact fun i' hi' => ⟨m14' i' hi', (oo2' i' hi').1⟩
    · rw [u5', fK' 39 (by decide) (by decide) (by decide)]; exact m9'
    · rw [u6', fK' 39 (by decide) (by decide) (by decide)]; exact m10'
    · intro j' hj'
      rw [k10' j' hj', q4' j' hj', u1', m11' j' hj']
    · intro j' hj'
      rw [u5'] at hj'
      rw [k11' j' (by omega), q5' j' hj', u2', m12' j' hj']
    · intro j' hj'
      rw [u6'] at hj'
      rw [k12' j' (by omega), q6' j' hj', u3', m13' j' hj']
    · rw [fK' 57 (by decide) (by decide) (by decide)]; exact m5'
    · rw [fK' 57 (by decide) (by decide) (by decide), m7', f2I 57 (by decide) (by decide)]; exact p4'
    · rw [fK' 57 (by decide) (by decide) (by decide)]; exact m6'
    · rw [fK' 83 (by decide) (by decide) (by decide)]; exact m8'
    · exact v_Lk hL'' (K36' 14 (by decide)) (K87' 7 (by decide)) (fun c' hc' => nK' c' (by omega) (by omega) (by omega) (by omega) (by omega) (by omega) (by omega)) (nK' 89 (by decide) (by decide) (by decide) (by decide) (by decide) (by decide) (by decide)) (nK' 90 (by decide) (by decide) (by decide) (by decide) (by decide) (by decide) (by decide))
    · exact v_LHk hLH'' (K36' 16 (by decide)) (K87' 34 (by decide))
    · exact v_Wk hW'' (K36' 15 (by decide)) (K87' 30 (by decide)) (fun c' hc' => nK' c' (by omega) (by omega) (by omega) (by omega) (by omega) (by omega) (by omega)) (nK' 98 (by decide) (by decide) (by decide) (by decide) (by decide) (by decide) (by decide)) (nK' 99 (by decide) (by decide) (by decide) (by decide) (by decide) (by decide) (by decide))
end PT'
