/-! the reference's terms and sums -/
theorem t_64z (b' : Int32) (h' : ¬ b' = 0) : ¬ b'.toInt64 = 0 := by
  intro e'
  apply h'
  apply Int32.toInt_inj.mp
  have := congrArg Int64.toInt e'
  rw [Int32.toInt_toInt64] at this
  exact this
section PL'
variable {X' : p_X} {I' : p_I} {β : Nat → Nat} {n' tc' bg' e' d' : Nat}
theorem s_msum (hB' : p_B X') (hS' : p_S I') {rec'' : Nat → Nat → q_Mem → Option (Int32 × q_Mem)} {A' : Nat → t_R} {a' : Nat} (hg' : ∀ e', e' ≤ n' → t_GR n' a' e' 0 False (A' e')) (hA' : ∀ I' e', p_S I' → t_EN β n' tc' bg' X' I' e' d' → t_MR X' I' (rec'' 2 87 (I', X')) (A' e'))
    (hE' : t_EN β n' tc' bg' X' I' e' d') : t_MR X' I' (F_X12_sum rec'' 87 (I', X')) (t_lpS β n' A' t_s2 2 (-7) e') := by
  obtain ⟨hR', he', hen', h11', h12'⟩ := id hE'
  have hn' := hR'.2.2.2.2.1
  have hβ := hR'.2.2.2.2.2.2
  have hr' := hA' I' e' hS' hE'
  have hg0' := hg' e' hen'
  unfold F_X12_sum t_lpS
  cases hs' : A' e' with
  | inl x' =>
    rw [hs'] at hr' hg0'
    obtain ⟨w', J1', r1', r2'⟩ := hr'
    have hxn' : ¬ J1' 87 11 = -1 := by rw [r2'.2.2]; exact p_of1 x' (by have := hg0'.2; omega)
    have hb' : B_X12_sum_5 rec'' 87 w' (J1', X') = some (.inr (w', (J1', X'))) := by
      unfold B_X12_sum_5
      simp (disch := omega) only [↓ce_87 hB', rf_87 hB', ↓nn_31, ↓nn_33, ↓nn_89, ↓nn_90, ↓nn_91, ↓nn_92, ↓nn_93, ↓nn_94, ↓nn_95, ↓nn_96, ↓nn_97, ↓nn_98, ↓nn_99, ↓nn_100, ↓nn_101, ↓nn_102, ↓nn_103, ↓nn_104, ↓nn_105, ↓nn_106, ↓nn_107, ↓nn_108, p_bs, p_rq0, p_rq1, p_rz0, p_rz1, p_us, p_un, p_uj, ↓reduceIte, hxn']
    simp (disch := omega) only [↓ce_87 hB', rf_87 hB', ↓nn_31, ↓nn_33, ↓nn_89, ↓nn_90, ↓nn_91, ↓nn_92, ↓nn_93, ↓nn_94, ↓nn_95, ↓nn_96, ↓nn_97, ↓nn_98, ↓nn_99, ↓nn_100, ↓nn_101, ↓nn_102, ↓nn_103, ↓nn_104, ↓nn_105, ↓nn_106, ↓nn_107, ↓nn_108, p_bs, p_rq0, p_rq1, p_rz0, p_rz1, p_us, p_un, p_uj, ↓reduceIte, r1']
    rw [p_fu, p_lpE (e' := (w', (J1', X'))) hb']
    exact ⟨w', J1', rfl, r2'⟩
  | inr z' =>
    obtain ⟨x0', c0', v0'⟩ := z'
    rw [hs'] at hr' hg0'
    obtain ⟨w0', J1', r1', r2', r3'⟩ := hr'
    obtain ⟨k1', k2', k3', k4', k5'⟩ := hg0'
    obtain ⟨z', h1', w', J', rfl, h2'⟩ := p_lp (fun z' => B_X12_sum_5 rec'' 87 z'.1 z'.2)
      (fun i' z' => (∃ J' e1' c' w' vv', z' = (w', (J', X')) ∧ t_QE I' e1' J' ∧ e1' ≤ n' ∧ i' ≤ e1' ∧ (t_Lb (t_rh I') → w' = vv' (t_rh I') ∧ -1000000 ≤ w'.toInt ∧ w'.toInt ≤ 1000000) ∧ t_lpA β n' A' t_s2 2 (-7) (240 - i') e1' c' vv' = t_lpA β n' A' t_s2 2 (-7) 240 x0' c0' v0' ∧ i' < 240) ∨
        (∃ J' x' w', z' = (w', (J', X')) ∧ t_lpA β n' A' t_s2 2 (-7) 240 x0' c0' v0' = .inl x' ∧ x' ≤ n' ∧ t_QD I' x' J'))
      (fun z' => ∃ w' J', z' = (w', (J', X')) ∧ ((∃ x', t_lpA β n' A' t_s2 2 (-7) 240 x0' c0' v0' = .inl x' ∧ t_QD I' x' J') ∨ (∃ x' c' vv', t_lpA β n' A' t_s2 2 (-7) 240 x0' c0' v0' = .inr (x', c', vv') ∧ (t_Lb (t_rh I') → w' = vv' (t_rh I')) ∧ t_QE I' x' J'))) 240 (by
        rintro i' z' hi' (⟨J', e1', c', w', vv', rfl, j1', j2', j3', j4', j5', j6'⟩ | ⟨J', x', w', rfl, j1', j2', j3'⟩)
        · have hE1' := t_ENq hE' j1' j2'
          have hL' := t_skL β n' e1'
          have hU' := t_skU β n' e1' j2'
          rw [show 240 - i' = (240 - (i' + 1)) + 1 by omega, t_lpA] at j5'
          obtain ⟨J2', b1', b2'⟩ := s_look hB' hE1'.1 hE1'.2.1 j2'
          have q2' := t_QEt j1' b2'
          have hE2' := t_ENq hE' q2' hU'
          obtain ⟨J3', b3', b4'⟩ := s_look hB' hE2'.1 hE2'.2.1 hU'
          rw [t_skk] at b3' b4'
          have q3' := t_QEt q2' b4'
          have hE3' := t_ENq hE' q3' hU'
          obtain ⟨J4', b5', b6'⟩ := s_look hB' hE3'.1 hE3'.2.1 hU'
          rw [t_skk] at b5' b6'
          have q4' := t_QEt q3' b6'
          have g11' : J' 87 11 = -1 := hE1'.2.2.2.1
          have key' : ∀ K' wi' s0', t_QE I' (t_sk β n' e1') K' → (wi' = 0 ∧ s0' = 1 ∨ wi' = 1 ∧ s0' = 0) → t_pa β n' t_s2 2 (t_sk β n' e1') = some wi' → ∃ t', J_X12_sum_45_5 rec'' 87 w' s0' (K', X') = some (.inl t') ∧ i' < 240 ∧ ((∃ J' e1' c' w' vv', t' = (w', (J', X')) ∧ t_QE I' e1' J' ∧ e1' ≤ n' ∧ i' + 1 ≤ e1' ∧ (t_Lb (t_rh I') → w' = vv' (t_rh I') ∧ -1000000 ≤ w'.toInt ∧ w'.toInt ≤ 1000000) ∧ t_lpA β n' A' t_s2 2 (-7) (240 - (i' + 1)) e1' c' vv' = t_lpA β n' A' t_s2 2 (-7) 240 x0' c0' v0' ∧ i' + 1 < 240) ∨ (∃ J' x' w', t' = (w', (J', X')) ∧ t_lpA β n' A' t_s2 2 (-7) 240 x0' c0' v0' = .inl x' ∧ x' ≤ n' ∧ t_QD I' x' J')) := by
            intro K' wi' s0' hK' hws' hpa'
            obtain ⟨p1', p2', p3'⟩ := t_paB hpa'
            rw [hpa'] at j5'
            simp only at j5'
            have qk' := t_QEu (e'' := t_sk β n' e1' + 1) hK'
            have hEk' := t_ENq hE' qk' (by omega)
            have hSk' : p_S (q_u2 K' 87 10 (Int32.ofNat (t_sk β n' e1' + 1))) := fun k' hk' => by rw [qk'.1 k' (by omega)]; exact hS' k' hk'
            have hr2' := hA' _ (t_sk β n' e1' + 1) hSk' hEk'
            have hg2' := hg' (t_sk β n' e1' + 1) (by omega)
            have hrho : t_rh (q_u2 K' 87 10 (Int32.ofNat (t_sk β n' e1' + 1))) = t_rh I' := t_rhq qk'
            unfold J_X12_sum_45_5 J_X12_sum_77_5
            simp (disch := omega) only [↓ce_87 hB', rf_87 hB', ↓nn_31, ↓nn_33, ↓nn_89, ↓nn_90, ↓nn_91, ↓nn_92, ↓nn_93, ↓nn_94, ↓nn_95, ↓nn_96, ↓nn_97, ↓nn_98, ↓nn_99, ↓nn_100, ↓nn_101, ↓nn_102, ↓nn_103, ↓nn_104, ↓nn_105, ↓nn_106, ↓nn_107, ↓nn_108, p_bs, p_rq0, p_rq1, p_rz0, p_rz1, p_us, p_un, p_uj, ↓reduceIte, hK'.2.2, p_ar]
            cases hs2' : A' (t_sk β n' e1' + 1) with
            | inl x' =>
              rw [hs2'] at hr2' hg2' j5'
              obtain ⟨u', K2', m1', m2'⟩ := hr2'
              simp only [m1', p_bs, s_within]
              have fin' : ∀ y' : Int32, ∃ t', (some (.inl (y', (K2', X'))) : Option ((Int32 × q_Mem) ⊕ (Int32 × q_Mem))) = some (.inl t') ∧ i' < 240 ∧ ((∃ J' e1' c' w' vv', t' = (w', (J', X')) ∧ t_QE I' e1' J' ∧ e1' ≤ n' ∧ i' + 1 ≤ e1' ∧ (t_Lb (t_rh I') → w' = vv' (t_rh I') ∧ -1000000 ≤ w'.toInt ∧ w'.toInt ≤ 1000000) ∧ t_lpA β n' A' t_s2 2 (-7) (240 - (i' + 1)) e1' c' vv' = t_lpA β n' A' t_s2 2 (-7) 240 x0' c0' v0' ∧ i' + 1 < 240) ∨ (∃ J' x' w', t' = (w', (J', X')) ∧ t_lpA β n' A' t_s2 2 (-7) 240 x0' c0' v0' = .inl x' ∧ x' ≤ n' ∧ t_QD I' x' J')) := fun y' => ⟨_, rfl, by omega, .inr ⟨K2', x', y', rfl, j5'.symm, hg2'.2, t_QDt qk' m2'⟩⟩
              rcases hws' with ⟨rfl, rfl⟩ | ⟨rfl, rfl⟩
              · simp only [show ((1 : Int32) = 0) = False from by decide, ↓reduceIte]
                exact fin' _
              · simp only [↓reduceIte]
                exact fin' _
            | inr z2' =>
              obtain ⟨x', cc', v2'⟩ := z2'
              rw [hs2'] at hr2' hg2' j5'
              obtain ⟨u', K2', m1', m2', m3'⟩ := hr2'
              obtain ⟨n1', n2', n3', n4', n5'⟩ := hg2'
              rw [hrho] at m2'
              simp only [m1', p_bs, s_within]
              have fin' : ∀ y' : Int32, (t_Lb (t_rh I') → y' = t_jn (-7 - Int32.ofNat wi') w' u') → ∃ t', (some (.inl (y', (K2', X'))) : Option ((Int32 × q_Mem) ⊕ (Int32 × q_Mem))) = some (.inl t') ∧ i' < 240 ∧ ((∃ J' e1' c' w' vv', t' = (w', (J', X')) ∧ t_QE I' e1' J' ∧ e1' ≤ n' ∧ i' + 1 ≤ e1' ∧ (t_Lb (t_rh I') → w' = vv' (t_rh I') ∧ -1000000 ≤ w'.toInt ∧ w'.toInt ≤ 1000000) ∧ t_lpA β n' A' t_s2 2 (-7) (240 - (i' + 1)) e1' c' vv' = t_lpA β n' A' t_s2 2 (-7) 240 x0' c0' v0' ∧ i' + 1 < 240) ∨ (∃ J' x' w', t' = (w', (J', X')) ∧ t_lpA β n' A' t_s2 2 (-7) 240 x0' c0' v0' = .inl x' ∧ x' ≤ n' ∧ t_QD I' x' J')) := by
                intro y' hy'
                refine ⟨_, rfl, by omega, .inl ⟨K2', x', _, y', _, rfl, t_QEt qk' m3', n2', by omega, fun hb' => ?_, j5', by omega⟩⟩
                have y1' := hy' hb'
                have y2' := (j4' hb').1
                have y3' := m2' hb'
                refine ⟨by rw [y1', y2', y3'], ?_⟩
                rw [y1']
                exact t_jnB _ _ _
              have bnd' : t_Lb (t_rh I') → (-1000000 ≤ w'.toInt ∧ w'.toInt ≤ 1000000) ∧ (-1000000 ≤ u'.toInt ∧ u'.toInt ≤ 1000000) := fun hb' => ⟨(j4' hb').2, by rw [m2' hb']; exact (n5' _ hb').1⟩
              rcases hws' with ⟨rfl, rfl⟩ | ⟨rfl, rfl⟩
              · simp only [show ((1 : Int32) = 0) = False from by decide, ↓reduceIte]
                exact fin' _ (fun hb' => (t_jnP w' u' (bnd' hb').1 (bnd' hb').2).1)
              · simp only [↓reduceIte]
                exact fin' _ (fun hb' => (t_jnP w' u' (bnd' hb').1 (bnd' hb').2).2.1)
          unfold B_X12_sum_5 J_X12_sum_31_5
          rw [show (43 : Int32) = Int32.ofNat 43 from rfl, show (45 : Int32) = Int32.ofNat 45 from rfl]
          simp (disch := omega) only [↓ce_87 hB', rf_87 hB', ↓nn_31, ↓nn_33, ↓nn_89, ↓nn_90, ↓nn_91, ↓nn_92, ↓nn_93, ↓nn_94, ↓nn_95, ↓nn_96, ↓nn_97, ↓nn_98, ↓nn_99, ↓nn_100, ↓nn_101, ↓nn_102, ↓nn_103, ↓nn_104, ↓nn_105, ↓nn_106, ↓nn_107, ↓nn_108, p_bs, p_rq0, p_rq1, p_rz0, p_rz1, p_us, p_un, p_uj, ↓reduceIte, g11', b1', b3', b5', t_sgE2 hβ _ _ (show (43 : Nat) < 256 by decide), t_sgE2 hβ _ _ (show (45 : Nat) < 256 by decide), t_isE]
          have hp2' := t_pa2 (β := β) (n' := n') t_s2 (t_sk β n' e1')
          rw [show t_s2 0 = 43 from rfl, show t_s2 1 = 45 from rfl] at hp2'
          by_cases hc0' : t_is β n' (t_sk β n' e1') 43 = true
          · left
            rw [if_pos hc0'] at hp2'
            simp only [hc0', ↓reduceIte]
            exact key' J3' 0 1 q3' (.inl ⟨rfl, rfl⟩) hp2'
          · rw [if_neg hc0'] at hp2'
            by_cases hc1' : t_is β n' (t_sk β n' e1') 45 = true
            · left
              rw [if_pos hc1'] at hp2'
              simp only [hc0', hc1', ↓reduceIte]
              exact key' J4' 1 0 q4' (.inr ⟨rfl, rfl⟩) hp2'
            · right
              rw [if_neg hc1'] at hp2'
              rw [hp2'] at j5'
              simp only [hc0', hc1', ↓reduceIte]
              exact ⟨_, rfl, w', J3', rfl, .inr ⟨_, c', vv', j5'.symm, fun hb' => (j4' hb').1, q3'⟩⟩
        · right
          have hxn' : ¬ J' 87 11 = -1 := by rw [j3'.2.2]; exact p_of1 x' (by omega)
          unfold B_X12_sum_5
          simp (disch := omega) only [↓ce_87 hB', rf_87 hB', ↓nn_31, ↓nn_33, ↓nn_89, ↓nn_90, ↓nn_91, ↓nn_92, ↓nn_93, ↓nn_94, ↓nn_95, ↓nn_96, ↓nn_97, ↓nn_98, ↓nn_99, ↓nn_100, ↓nn_101, ↓nn_102, ↓nn_103, ↓nn_104, ↓nn_105, ↓nn_106, ↓nn_107, ↓nn_108, p_bs, p_rq0, p_rq1, p_rz0, p_rz1, p_us, p_un, p_uj, ↓reduceIte, hxn']
          exact ⟨_, rfl, w', J', rfl, .inl ⟨x', j1', j3'⟩⟩) 240 0 q_fu (w0', (J1', X')) (by omega) (by unfold q_fu; omega) (.inl ⟨J1', x0', c0', w0', v0', rfl, r3', k2', by omega, fun hb' => ⟨r2' hb', by rw [r2' hb']; exact (k5' _ hb').1⟩, rfl, by omega⟩)
    simp (disch := omega) only [↓ce_87 hB', rf_87 hB', ↓nn_31, ↓nn_33, ↓nn_89, ↓nn_90, ↓nn_91, ↓nn_92, ↓nn_93, ↓nn_94, ↓nn_95, ↓nn_96, ↓nn_97, ↓nn_98, ↓nn_99, ↓nn_100, ↓nn_101, ↓nn_102, ↓nn_103, ↓nn_104, ↓nn_105, ↓nn_106, ↓nn_107, ↓nn_108, p_bs, p_rq0, p_rq1, p_rz0, p_rz1, p_us, p_un, p_uj, ↓reduceIte, r1', h1']
    rcases h2' with ⟨x', q1', q3'⟩ | ⟨x', c', v', q1', q2', q3'⟩
    · rw [q1']
      exact ⟨w', J', rfl, q3'⟩
    · rw [q1']
      exact ⟨w', J', rfl, q2', q3'⟩
theorem s_mterm (hB' : p_B X') (hS' : p_S I') {rec'' : Nat → Nat → q_Mem → Option (Int32 × q_Mem)} {A' : Nat → t_R} {a' : Nat} (hg' : ∀ e', e' ≤ n' → t_GR n' a' e' 0 False (A' e')) (hA' : ∀ I' e', p_S I' → t_EN β n' tc' bg' X' I' e' d' → t_MR X' I' (rec'' 0 87 (I', X')) (A' e'))
    (hE' : t_EN β n' tc' bg' X' I' e' d') : t_MR X' I' (F_X12_term rec'' 87 (I', X')) (t_lpS β n' A' t_s1 2 (-9) e') := by
  obtain ⟨hR', he', hen', h11', h12'⟩ := id hE'
  have hn' := hR'.2.2.2.2.1
  have hβ := hR'.2.2.2.2.2.2
  have hr' := hA' I' e' hS' hE'
  have hg0' := hg' e' hen'
  unfold F_X12_term t_lpS
  cases hs' : A' e' with
  | inl x' =>
    rw [hs'] at hr' hg0'
    obtain ⟨w', J1', r1', r2'⟩ := hr'
    have hxn' : ¬ J1' 87 11 = -1 := by rw [r2'.2.2]; exact p_of1 x' (by have := hg0'.2; omega)
    have hb' : B_X12_term_5 rec'' 87 w' (J1', X') = some (.inr (w', (J1', X'))) := by
      unfold B_X12_term_5
      simp (disch := omega) only [↓ce_87 hB', rf_87 hB', ↓nn_31, ↓nn_33, ↓nn_89, ↓nn_90, ↓nn_91, ↓nn_92, ↓nn_93, ↓nn_94, ↓nn_95, ↓nn_96, ↓nn_97, ↓nn_98, ↓nn_99, ↓nn_100, ↓nn_101, ↓nn_102, ↓nn_103, ↓nn_104, ↓nn_105, ↓nn_106, ↓nn_107, ↓nn_108, p_bs, p_rq0, p_rq1, p_rz0, p_rz1, p_us, p_un, p_uj, ↓reduceIte, hxn']
    simp (disch := omega) only [↓ce_87 hB', rf_87 hB', ↓nn_31, ↓nn_33, ↓nn_89, ↓nn_90, ↓nn_91, ↓nn_92, ↓nn_93, ↓nn_94, ↓nn_95, ↓nn_96, ↓nn_97, ↓nn_98, ↓nn_99, ↓nn_100, ↓nn_101, ↓nn_102, ↓nn_103, ↓nn_104, ↓nn_105, ↓nn_106, ↓nn_107, ↓nn_108, p_bs, p_rq0, p_rq1, p_rz0, p_rz1, p_us, p_un, p_uj, ↓reduceIte, r1']
    rw [p_fu, p_lpE (e' := (w', (J1', X'))) hb']
    exact ⟨w', J1', rfl, r2'⟩
  | inr z' =>
    obtain ⟨x0', c0', v0'⟩ := z'
    rw [hs'] at hr' hg0'
    obtain ⟨w0', J1', r1', r2', r3'⟩ := hr'
    obtain ⟨k1', k2', k3', k4', k5'⟩ := hg0'
    obtain ⟨z', h1', w', J', rfl, h2'⟩ := p_lp (fun z' => B_X12_term_5 rec'' 87 z'.1 z'.2)
      (fun i' z' => (∃ J' e1' c' w' vv', z' = (w', (J', X')) ∧ t_QE I' e1' J' ∧ e1' ≤ n' ∧ i' ≤ e1' ∧ (t_Lb (t_rh I') → w' = vv' (t_rh I') ∧ -1000000 ≤ w'.toInt ∧ w'.toInt ≤ 1000000) ∧ t_lpA β n' A' t_s1 2 (-9) (240 - i') e1' c' vv' = t_lpA β n' A' t_s1 2 (-9) 240 x0' c0' v0' ∧ i' < 240) ∨
        (∃ J' x' w', z' = (w', (J', X')) ∧ t_lpA β n' A' t_s1 2 (-9) 240 x0' c0' v0' = .inl x' ∧ x' ≤ n' ∧ t_QD I' x' J'))
      (fun z' => ∃ w' J', z' = (w', (J', X')) ∧ ((∃ x', t_lpA β n' A' t_s1 2 (-9) 240 x0' c0' v0' = .inl x' ∧ t_QD I' x' J') ∨ (∃ x' c' vv', t_lpA β n' A' t_s1 2 (-9) 240 x0' c0' v0' = .inr (x', c', vv') ∧ (t_Lb (t_rh I') → w' = vv' (t_rh I')) ∧ t_QE I' x' J'))) 240 (by
        rintro i' z' hi' (⟨J', e1', c', w', vv', rfl, j1', j2', j3', j4', j5', j6'⟩ | ⟨J', x', w', rfl, j1', j2', j3'⟩)
        · have hE1' := t_ENq hE' j1' j2'
          have hL' := t_skL β n' e1'
          have hU' := t_skU β n' e1' j2'
          rw [show 240 - i' = (240 - (i' + 1)) + 1 by omega, t_lpA] at j5'
          obtain ⟨J2', b1', b2'⟩ := s_look hB' hE1'.1 hE1'.2.1 j2'
          have q2' := t_QEt j1' b2'
          have hE2' := t_ENq hE' q2' hU'
          obtain ⟨J3', b3', b4'⟩ := s_look hB' hE2'.1 hE2'.2.1 hU'
          rw [t_skk] at b3' b4'
          have q3' := t_QEt q2' b4'
          have hE3' := t_ENq hE' q3' hU'
          obtain ⟨J4', b5', b6'⟩ := s_look hB' hE3'.1 hE3'.2.1 hU'
          rw [t_skk] at b5' b6'
          have q4' := t_QEt q3' b6'
          have g11' : J' 87 11 = -1 := hE1'.2.2.2.1
          have key' : ∀ K' wi' s0', t_QE I' (t_sk β n' e1') K' → (wi' = 0 ∧ s0' = 1 ∨ wi' = 1 ∧ s0' = 0) → t_pa β n' t_s1 2 (t_sk β n' e1') = some wi' → ∃ t', J_X12_term_45_5 rec'' 87 w' s0' (K', X') = some (.inl t') ∧ i' < 240 ∧ ((∃ J' e1' c' w' vv', t' = (w', (J', X')) ∧ t_QE I' e1' J' ∧ e1' ≤ n' ∧ i' + 1 ≤ e1' ∧ (t_Lb (t_rh I') → w' = vv' (t_rh I') ∧ -1000000 ≤ w'.toInt ∧ w'.toInt ≤ 1000000) ∧ t_lpA β n' A' t_s1 2 (-9) (240 - (i' + 1)) e1' c' vv' = t_lpA β n' A' t_s1 2 (-9) 240 x0' c0' v0' ∧ i' + 1 < 240) ∨ (∃ J' x' w', t' = (w', (J', X')) ∧ t_lpA β n' A' t_s1 2 (-9) 240 x0' c0' v0' = .inl x' ∧ x' ≤ n' ∧ t_QD I' x' J')) := by
            intro K' wi' s0' hK' hws' hpa'
            obtain ⟨p1', p2', p3'⟩ := t_paB hpa'
            rw [hpa'] at j5'
            simp only at j5'
            have qk' := t_QEu (e'' := t_sk β n' e1' + 1) hK'
            have hEk' := t_ENq hE' qk' (by omega)
            have hSk' : p_S (q_u2 K' 87 10 (Int32.ofNat (t_sk β n' e1' + 1))) := fun k' hk' => by rw [qk'.1 k' (by omega)]; exact hS' k' hk'
            have hr2' := hA' _ (t_sk β n' e1' + 1) hSk' hEk'
            have hg2' := hg' (t_sk β n' e1' + 1) (by omega)
            have hrho : t_rh (q_u2 K' 87 10 (Int32.ofNat (t_sk β n' e1' + 1))) = t_rh I' := t_rhq qk'
            unfold J_X12_term_45_5 J_X12_term_87_5
            simp (disch := omega) only [↓ce_87 hB', rf_87 hB', ↓nn_31, ↓nn_33, ↓nn_89, ↓nn_90, ↓nn_91, ↓nn_92, ↓nn_93, ↓nn_94, ↓nn_95, ↓nn_96, ↓nn_97, ↓nn_98, ↓nn_99, ↓nn_100, ↓nn_101, ↓nn_102, ↓nn_103, ↓nn_104, ↓nn_105, ↓nn_106, ↓nn_107, ↓nn_108, p_bs, p_rq0, p_rq1, p_rz0, p_rz1, p_us, p_un, p_uj, ↓reduceIte, hK'.2.2, p_ar]
            cases hs2' : A' (t_sk β n' e1' + 1) with
            | inl x' =>
              rw [hs2'] at hr2' hg2' j5'
              obtain ⟨u', K2', m1', m2'⟩ := hr2'
              simp only [m1', p_bs, s_within]
              have fin' : ∀ y' : Int32, ∃ t', (some (.inl (y', (K2', X'))) : Option ((Int32 × q_Mem) ⊕ (Int32 × q_Mem))) = some (.inl t') ∧ i' < 240 ∧ ((∃ J' e1' c' w' vv', t' = (w', (J', X')) ∧ t_QE I' e1' J' ∧ e1' ≤ n' ∧ i' + 1 ≤ e1' ∧ (t_Lb (t_rh I') → w' = vv' (t_rh I') ∧ -1000000 ≤ w'.toInt ∧ w'.toInt ≤ 1000000) ∧ t_lpA β n' A' t_s1 2 (-9) (240 - (i' + 1)) e1' c' vv' = t_lpA β n' A' t_s1 2 (-9) 240 x0' c0' v0' ∧ i' + 1 < 240) ∨ (∃ J' x' w', t' = (w', (J', X')) ∧ t_lpA β n' A' t_s1 2 (-9) 240 x0' c0' v0' = .inl x' ∧ x' ≤ n' ∧ t_QD I' x' J')) := fun y' => ⟨_, rfl, by omega, .inr ⟨K2', x', y', rfl, j5'.symm, hg2'.2, t_QDt qk' m2'⟩⟩
              rcases hws' with ⟨rfl, rfl⟩ | ⟨rfl, rfl⟩
              · simp only [show ((1 : Int32) = 0) = False from by decide, ↓reduceIte]
                exact fin' _
              · simp only [↓reduceIte, t_lg0]
                by_cases hu' : u' = 0
                · simp only [hu', ↓reduceIte]
                  exact fin' _
                · unfold q_dvl
                  simp only [hu', t_64z u' hu', ↓reduceIte]
                  exact fin' _
            | inr z2' =>
              obtain ⟨x', cc', v2'⟩ := z2'
              rw [hs2'] at hr2' hg2' j5'
              obtain ⟨u', K2', m1', m2', m3'⟩ := hr2'
              obtain ⟨n1', n2', n3', n4', n5'⟩ := hg2'
              rw [hrho] at m2'
              simp only [m1', p_bs, s_within]
              have fin' : ∀ y' : Int32, (t_Lb (t_rh I') → y' = t_jn (-9 - Int32.ofNat wi') w' u') → ∃ t', (some (.inl (y', (K2', X'))) : Option ((Int32 × q_Mem) ⊕ (Int32 × q_Mem))) = some (.inl t') ∧ i' < 240 ∧ ((∃ J' e1' c' w' vv', t' = (w', (J', X')) ∧ t_QE I' e1' J' ∧ e1' ≤ n' ∧ i' + 1 ≤ e1' ∧ (t_Lb (t_rh I') → w' = vv' (t_rh I') ∧ -1000000 ≤ w'.toInt ∧ w'.toInt ≤ 1000000) ∧ t_lpA β n' A' t_s1 2 (-9) (240 - (i' + 1)) e1' c' vv' = t_lpA β n' A' t_s1 2 (-9) 240 x0' c0' v0' ∧ i' + 1 < 240) ∨ (∃ J' x' w', t' = (w', (J', X')) ∧ t_lpA β n' A' t_s1 2 (-9) 240 x0' c0' v0' = .inl x' ∧ x' ≤ n' ∧ t_QD I' x' J')) := by
                intro y' hy'
                refine ⟨_, rfl, by omega, .inl ⟨K2', x', _, y', _, rfl, t_QEt qk' m3', n2', by omega, fun hb' => ?_, j5', by omega⟩⟩
                have y1' := hy' hb'
                have y2' := (j4' hb').1
                have y3' := m2' hb'
                refine ⟨by rw [y1', y2', y3'], ?_⟩
                rw [y1']
                exact t_jnB _ _ _
              have bnd' : t_Lb (t_rh I') → (-1000000 ≤ w'.toInt ∧ w'.toInt ≤ 1000000) ∧ (-1000000 ≤ u'.toInt ∧ u'.toInt ≤ 1000000) := fun hb' => ⟨(j4' hb').2, by rw [m2' hb']; exact (n5' _ hb').1⟩
              rcases hws' with ⟨rfl, rfl⟩ | ⟨rfl, rfl⟩
              · simp only [show ((1 : Int32) = 0) = False from by decide, ↓reduceIte]
                exact fin' _ (fun hb' => (t_jnP w' u' (bnd' hb').1 (bnd' hb').2).2.2.1)
              · simp only [↓reduceIte, t_lg0]
                by_cases hu' : u' = 0
                · simp only [hu', ↓reduceIte]
                  refine fin' _ (fun hb' => ?_)
                  rw [hu', t_cl0]
                  exact (t_jn0 w').symm
                · unfold q_dvl
                  simp only [hu', t_64z u' hu', ↓reduceIte]
                  exact fin' _ (fun hb' => (t_jnP w' u' (bnd' hb').1 (bnd' hb').2).2.2.2 hu')
          unfold B_X12_term_5 J_X12_term_31_5
          rw [show (42 : Int32) = Int32.ofNat 42 from rfl, show (47 : Int32) = Int32.ofNat 47 from rfl]
          simp (disch := omega) only [↓ce_87 hB', rf_87 hB', ↓nn_31, ↓nn_33, ↓nn_89, ↓nn_90, ↓nn_91, ↓nn_92, ↓nn_93, ↓nn_94, ↓nn_95, ↓nn_96, ↓nn_97, ↓nn_98, ↓nn_99, ↓nn_100, ↓nn_101, ↓nn_102, ↓nn_103, ↓nn_104, ↓nn_105, ↓nn_106, ↓nn_107, ↓nn_108, p_bs, p_rq0, p_rq1, p_rz0, p_rz1, p_us, p_un, p_uj, ↓reduceIte, g11', b1', b3', b5', t_sgE2 hβ _ _ (show (42 : Nat) < 256 by decide), t_sgE2 hβ _ _ (show (47 : Nat) < 256 by decide), t_isE]
          have hp2' := t_pa2 (β := β) (n' := n') t_s1 (t_sk β n' e1')
          rw [show t_s1 0 = 42 from rfl, show t_s1 1 = 47 from rfl] at hp2'
          by_cases hc0' : t_is β n' (t_sk β n' e1') 42 = true
          · left
            rw [if_pos hc0'] at hp2'
            simp only [hc0', ↓reduceIte]
            exact key' J3' 0 1 q3' (.inl ⟨rfl, rfl⟩) hp2'
          · rw [if_neg hc0'] at hp2'
            by_cases hc1' : t_is β n' (t_sk β n' e1') 47 = true
            · left
              rw [if_pos hc1'] at hp2'
              simp only [hc0', hc1', ↓reduceIte]
              exact key' J4' 1 0 q4' (.inr ⟨rfl, rfl⟩) hp2'
            · right
              rw [if_neg hc1'] at hp2'
              rw [hp2'] at j5'
              simp only [hc0', hc1', ↓reduceIte]
              exact ⟨_, rfl, w', J3', rfl, .inr ⟨_, c', vv', j5'.symm, fun hb' => (j4' hb').1, q3'⟩⟩
        · right
          have hxn' : ¬ J' 87 11 = -1 := by rw [j3'.2.2]; exact p_of1 x' (by omega)
          unfold B_X12_term_5
          simp (disch := omega) only [↓ce_87 hB', rf_87 hB', ↓nn_31, ↓nn_33, ↓nn_89, ↓nn_90, ↓nn_91, ↓nn_92, ↓nn_93, ↓nn_94, ↓nn_95, ↓nn_96, ↓nn_97, ↓nn_98, ↓nn_99, ↓nn_100, ↓nn_101, ↓nn_102, ↓nn_103, ↓nn_104, ↓nn_105, ↓nn_106, ↓nn_107, ↓nn_108, p_bs, p_rq0, p_rq1, p_rz0, p_rz1, p_us, p_un, p_uj, ↓reduceIte, hxn']
          exact ⟨_, rfl, w', J', rfl, .inl ⟨x', j1', j3'⟩⟩) 240 0 q_fu (w0', (J1', X')) (by omega) (by unfold q_fu; omega) (.inl ⟨J1', x0', c0', w0', v0', rfl, r3', k2', by omega, fun hb' => ⟨r2' hb', by rw [r2' hb']; exact (k5' _ hb').1⟩, rfl, by omega⟩)
    simp (disch := omega) only [↓ce_87 hB', rf_87 hB', ↓nn_31, ↓nn_33, ↓nn_89, ↓nn_90, ↓nn_91, ↓nn_92, ↓nn_93, ↓nn_94, ↓nn_95, ↓nn_96, ↓nn_97, ↓nn_98, ↓nn_99, ↓nn_100, ↓nn_101, ↓nn_102, ↓nn_103, ↓nn_104, ↓nn_105, ↓nn_106, ↓nn_107, ↓nn_108, p_bs, p_rq0, p_rq1, p_rz0, p_rz1, p_us, p_un, p_uj, ↓reduceIte, r1', h1']
    rcases h2' with ⟨x', q1', q3'⟩ | ⟨x', c', v', q1', q2', q3'⟩
    · rw [q1']
      exact ⟨w', J', rfl, q3'⟩
    · rw [q1']
      exact ⟨w', J', rfl, q2', q3'⟩
theorem s_mRsum (hB' : p_B X') (k' : Nat) (hk' : k' ≤ 6) (f' : Nat) (hf' : 3 * (k' + 1) ≤ f') : ∀ I' e', p_S I' → t_EN β n' tc' bg' X' I' e' (6 - k') → t_MR X' I' (R_X12_atom f' 1 87 (I', X')) (t_sum β n' k' e') := by
  induction k' generalizing f' with
  | zero =>
    obtain ⟨f', rfl⟩ : ∃ g', f' = g' + 1 + 1 + 1 := ⟨f' - 3, by omega⟩
    intro I' e' hS' hE'
    refine s_msum (a' := 2) (A' := t_trm β n' none) hB' hS' ?_ ?_ hE'
    · intro e' he'
      exact t_GRlpS (a' := 1) (fun e' he' => t_GRatm (by omega) (fun S' h' => by cases h') e' he') (fun w' hw' => by
        have : w' = 0 ∨ w' = 1 := by omega
        rcases this with rfl | rfl
        · exact .inr (.inr (.inl (by decide)))
        · exact .inr (.inr (.inr (by decide)))) e' he'
    · intro I' e' hS' hE'
      refine s_mterm (a' := 1) (A' := t_atm β n' none) hB' hS' ?_ ?_ hE'
      · exact fun e' he' => t_GRatm (by omega) (fun S' h' => by cases h') e' he'
      · intro I' e' hS' hE'
        exact s_matom hB' hS' (by omega) (.inl ⟨rfl, rfl⟩) hE'
  | succ k' ih' =>
    obtain ⟨f', rfl⟩ : ∃ g', f' = g' + 1 + 1 + 1 := ⟨f' - 3, by omega⟩
    have hin' : ∀ S', (some (t_sum β n' k')) = some S' → ∀ e', e' ≤ n' → t_GR n' (2 * k' + 3) e' 0 False (S' e') := fun S' h' e' he' => by cases h'; exact t_GRsum k' e' he'
    intro I' e' hS' hE'
    refine s_msum (a' := 2 * k' + 3 + 1) (A' := t_trm β n' (some (t_sum β n' k'))) hB' hS' ?_ ?_ hE'
    · intro e' he'
      exact t_GRlpS (a' := 2 * k' + 3) (fun e' he' => t_GRatm (by omega) hin' e' he') (fun w' hw' => by
        have : w' = 0 ∨ w' = 1 := by omega
        rcases this with rfl | rfl
        · exact .inr (.inr (.inl (by decide)))
        · exact .inr (.inr (.inr (by decide)))) e' he'
    · intro I' e' hS' hE'
      refine s_mterm (a' := 2 * k' + 3) (A' := t_atm β n' (some (t_sum β n' k'))) hB' hS' ?_ ?_ hE'
      · exact fun e' he' => t_GRatm (by omega) hin' e' he'
      · intro I' e' hS' hE'
        refine s_matom hB' hS' (by omega) (.inr ⟨by omega, t_sum β n' k', rfl, ⟨_, fun e' he' => t_GRsum k' e' he'⟩, ?_⟩) hE'
        intro I' e' hS' hE'
        rw [show 6 - (k' + 1) + 1 = 6 - k' by omega] at hE'
        exact ih' (by omega) f' (by omega) I' e' hS' hE'
end PL'
