/-! run -/
def yq_op (e' : Nat → Int32) (i' : Nat) : Nat := (e' (3 * i')).toNatClampNeg
noncomputable def yq_ws (H' : t_H) (L' : t_L) (e' s' : Nat → Int32) : Nat → (Nat → Int32)
  | 0 => s'
  | i' + 1 => t_do H' L' (yq_ws H' L' e' s' i') (yq_op e' i') (e' (3 * i' + 1)) (e' (3 * i' + 2))
noncomputable def yq_wc (H' : t_H) (L' : t_L) (e' s' : Nat → Int32) (i' : Nat) : Bool := t_can H' (yq_ws H' L' e' s' i') (yq_op e' i') (e' (3 * i' + 1)) (e' (3 * i' + 2))
/-- the first that is not so -/
def yq_ff (P' : Nat → Bool) : Nat → Nat → Nat
  | 0, i' => i'
  | m' + 1, i' => if P' i' = true then yq_ff P' m' (i' + 1) else i'
theorem yq_ffL (P' : Nat → Bool) (m' i' : Nat) : yq_ff P' m' i' ≤ i' + m' := by
  induction m' generalizing i' with
  | zero => exact Nat.le_refl _
  | succ m' ih' =>
    rw [yq_ff]
    split
    · have := ih' (i' + 1); omega
    · omega
section PR'
variable {X' : p_X} {I' : p_I} {H' : t_H} {L' : t_L} {s' : Nat → Int32}
theorem s_runC (hB' : p_B X') (hH' : t_HI H' I') (hW' : t_HW H') (hL' : t_LC L' X' I') (hG' : t_GS H' (I' 69)) {wd' sz' : Nat} (hws' : t_WS wd' X') (hne' : wd' ≠ p_sc X' ∧ wd' + 1 ≠ p_sc X') (hsz' : sz' ≤ 16) (hs1' : I' wd' 1 = Int32.ofNat sz') (hq' : ∀ j', j' < sz' → ∃ q', q' < 5 ∧ I' (wd' + 1) (3 * j') = Int32.ofNat q') (l1' : Nat) : ∃ J' z', q_lp (fun z' => B_X2_stepsDone_13 67 l1' wd' z'.1 z'.2.1 z'.2.2) q_fu ((0 : Int32), (0 : Int32), (I', X')) = some z' ∧ (z' = .inl (Int32.ofNat (yq_ff (yq_wc H' L' (I' (wd' + 1)) (I' 69)) sz' 0), (J', X')) ∨ z' = .inr (Int32.ofNat (yq_ff (yq_wc H' L' (I' (wd' + 1)) (I' 69)) sz' 0), (J', X'))) ∧ (∀ c', c' ≠ 63 → c' ≠ 64 → c' ≠ 65 → c' ≠ p_sc X' → c' ≠ 69 → J' c' = I' c') ∧ J' 69 = yq_ws H' L' (I' (wd' + 1)) (I' 69) (yq_ff (yq_wc H' L' (I' (wd' + 1)) (I' 69)) sz' 0) ∧ t_GS H' (yq_ws H' L' (I' (wd' + 1)) (I' 69) (yq_ff (yq_wc H' L' (I' (wd' + 1)) (I' 69)) sz' 0)) := by
  have hsc' := p_scN hL'
  obtain ⟨w1', w2', w3', w4', w5'⟩ := id hws'
  obtain ⟨z', h1', J', h2', j1', j2'⟩ := p_lp (fun z' => B_X2_stepsDone_13 67 l1' wd' z'.1 z'.2.1 z'.2.2) (fun i' z' => ∃ J', z' = (Int32.ofNat i', Int32.ofNat i', (J', X')) ∧ (∀ c', c' ≠ 63 → c' ≠ 64 → c' ≠ 65 → c' ≠ p_sc X' → c' ≠ 69 → J' c' = I' c') ∧ J' 69 = yq_ws H' L' (I' (wd' + 1)) (I' 69) i' ∧ t_GS H' (yq_ws H' L' (I' (wd' + 1)) (I' 69) i') ∧ yq_ff (yq_wc H' L' (I' (wd' + 1)) (I' 69)) (sz' - i') i' = yq_ff (yq_wc H' L' (I' (wd' + 1)) (I' 69)) sz' 0)
    (fun z' => ∃ J', (z' = .inl (Int32.ofNat (yq_ff (yq_wc H' L' (I' (wd' + 1)) (I' 69)) sz' 0), (J', X')) ∨ z' = .inr (Int32.ofNat (yq_ff (yq_wc H' L' (I' (wd' + 1)) (I' 69)) sz' 0), (J', X'))) ∧ (∀ c', c' ≠ 63 → c' ≠ 64 → c' ≠ 65 → c' ≠ p_sc X' → c' ≠ 69 → J' c' = I' c') ∧ J' 69 = yq_ws H' L' (I' (wd' + 1)) (I' 69) (yq_ff (yq_wc H' L' (I' (wd' + 1)) (I' 69)) sz' 0) ∧ t_GS H' (yq_ws H' L' (I' (wd' + 1)) (I' 69) (yq_ff (yq_wc H' L' (I' (wd' + 1)) (I' 69)) sz' 0))) sz' (by
      rintro i' z' hi' ⟨J', rfl, j1', j2', j3', j4'⟩
      have ew' : J' wd' = I' wd' := j1' wd' (by omega) (by omega) (by omega) hne'.1 (by omega)
      have ew1' : J' (wd' + 1) = I' (wd' + 1) := j1' (wd' + 1) (by omega) (by omega) (by omega) hne'.2 (by omega)
      have l1'' : J' wd' 1 = Int32.ofNat sz' := by rw [ew']; exact hs1'
      have hlt8' : (Int32.ofNat i' < Int32.ofNat sz') = (i' < sz') := p_lt i' sz' (by omega) (by omega)
      unfold B_X2_stepsDone_13
      by_cases hlt' : i' < sz'
      · obtain ⟨q', q1', q2'⟩ := hq' i' hlt'
        have o0' : F_X10_ofStep wd' (Int32.ofNat i') 0 (J', X') = some (Int32.ofNat q') := by
          have := s_ofStep (I' := J') hws' i' 0 (by omega)
          rw [ew1', show 3 * i' + 0 = 3 * i' from rfl, q2'] at this
          exact this
        have o1' : F_X10_ofStep wd' (Int32.ofNat i') 1 (J', X') = some (I' (wd' + 1) (3 * i' + 1)) := by
          have := s_ofStep (I' := J') hws' i' 1 (by omega)
          rw [ew1'] at this
          exact this
        have o2' : F_X10_ofStep wd' (Int32.ofNat i') 2 (J', X') = some (I' (wd' + 1) (3 * i' + 2)) := by
          have := s_ofStep (I' := J') hws' i' 2 (by omega)
          rw [ew1'] at this
          exact this
        have hop' : yq_op (I' (wd' + 1)) i' = q' := by unfold yq_op; rw [q2']; exact p_nat q' (by omega)
        obtain ⟨K', k1', k2', k3', k4', k5'⟩ := s_carry (I' := J') (k' := 68) (L' := L') hB' (t_HIk hH' (fun c' h1' h2' => j1' c' (by omega) (by omega) (by omega) (by omega) (by omega))) hW' (by omega) (by show t_WF H' (J' 69); rw [j2']; exact j3'.1) (t_LCk hL' (fun c' h1' h2' => j1' c' (by omega) (by omega) (by omega) h2' (by omega))) q' (by omega) (I' (wd' + 1) (3 * i' + 1)) (I' (wd' + 1) (3 * i' + 2))
        have hwc' : yq_wc H' L' (I' (wd' + 1)) (I' 69) i' = t_can H' (J' (68 + 1)) q' (I' (wd' + 1) (3 * i' + 1)) (I' (wd' + 1) (3 * i' + 2)) := by unfold yq_wc; rw [hop', ← j2']
        rw [← hwc'] at k1' k3' k4'
        have e60' : sz' - i' = (sz' - (i' + 1)) + 1 := by omega
        rw [e60', yq_ff] at j4'
        cases hb' : yq_wc H' L' (I' (wd' + 1)) (I' 69) i'
        · right
          rw [hb'] at j4' k1'
          have eK' := k4' hb'
          subst eK'
          rw [if_neg (by decide)] at j4'
          simp (disch := omega) only [p_gI w1', p_ob w1', l1'', hlt8', hlt', ↓reduceIte]
          simp (disch := omega) only [↓ce_67 hB', rf_67 hB', ↓ce_66 hB', rf_66 hB', ↓ce_68 hB', rf_68 hB', ↓nn_40, ↓nn_64, ↓nn_67, ↓nn_69, ↓nn_70, ↓nn_71, ↓nn_72, ↓nn_73, p_bs, p_rq0, p_rq1, p_rz0, p_rz1, p_us, p_un, p_uj, ↓reduceIte, o0', o1', o2', k1', t_b0]
          exact ⟨_, rfl, K', .inl (by rw [← j4']), j1', by rw [j2', ← j4'], by rw [← j4']; exact j3'⟩
        · left
          rw [hb'] at j4' k1'
          rw [if_pos rfl] at j4'
          simp (disch := omega) only [p_gI w1', p_ob w1', l1'', hlt8', hlt', ↓reduceIte]
          simp (disch := omega) only [↓ce_67 hB', rf_67 hB', ↓ce_66 hB', rf_66 hB', ↓ce_68 hB', rf_68 hB', ↓nn_40, ↓nn_64, ↓nn_67, ↓nn_69, ↓nn_70, ↓nn_71, ↓nn_72, ↓nn_73, p_bs, p_rq0, p_rq1, p_rz0, p_rz1, p_us, p_un, p_uj, ↓reduceIte, o0', o1', o2', k1', t_b0, Bool.true_eq_false, p_ar]
          have eK' : K' 69 = yq_ws H' L' (I' (wd' + 1)) (I' 69) (i' + 1) := by
            have := k3' hb'
            rw [show (68 + 1 : Nat) = 69 from rfl, j2', ← hop'] at this
            exact this
          refine ⟨_, rfl, True.intro, K', rfl, fun c' z1' z2' z3' z4' z5' => by rw [k2' c' z1' z2' z3' z4' z5']; exact j1' c' z1' z2' z3' z4' z5', eK', ?_, j4'⟩
          have hb'' : t_can H' (yq_ws H' L' (I' (wd' + 1)) (I' 69) i') (yq_op (I' (wd' + 1)) i') (I' (wd' + 1) (3 * i' + 1)) (I' (wd' + 1) (3 * i' + 2)) = true := hb'
          exact t_GSd hW' j3' (by omega) hb''
      · right
        have hi'' : i' = sz' := by omega
        subst hi''
        rw [Nat.sub_self, yq_ff] at j4'
        simp (disch := omega) only [p_gI w1', l1'', hlt8', Nat.lt_irrefl, ↓reduceIte]
        exact ⟨_, rfl, J', .inr (by rw [← j4']), j1', by rw [j2', ← j4'], by rw [← j4']; exact j3'⟩) sz' 0 q_fu (0, 0, (I', X')) (by omega) (by unfold q_fu; omega) ⟨I', rfl, fun _ _ _ _ _ _ => rfl, rfl, hG', rfl⟩
  exact ⟨J', z', h1', h2', j1', j2'⟩
theorem s_runM (hB' : p_B X') (hS0' : p_S I') (hM' : t_HM H' I') (hW' : t_HW H') (hL' : t_LM L' X' I') (hG' : t_GS H' s') (hR' : t_RS s' (I' 101)) (h36' : ∃ n', n' ≤ 60 ∧ I' 101 36 = Int32.ofNat n') {k' sz' : Nat} (hk' : k' < 4) (hsz' : sz' ≤ 16) (h99' : I' 99 k' = Int32.ofNat sz') (e' : Nat → Int32) (h98' : ∀ j', j' < 3 * sz' → I' 98 (48 * k' + j') = e' j') (hq' : ∀ j', j' < sz' → ∃ q', q' < 5 ∧ e' (3 * j') = Int32.ofNat q') (l2' : Int32) : ∃ J' u', q_lp (fun z' => B_X12_run_47 87 (Int32.ofNat k') l2' z'.1 z'.2) q_fu ((0 : Int32), (I', X')) = some (Int32.ofNat (yq_ff (yq_wc H' L' e' s') sz' 0), (J', p_T X' u')) ∧ (∀ c', c' ≠ 87 → c' ≠ 91 → c' ≠ 102 → c' ≠ 101 → J' c' = I' c') ∧ (∀ j', ¬ t_m87 j' → J' 87 j' = I' 87 j') ∧ t_RS (yq_ws H' L' e' s' (yq_ff (yq_wc H' L' e' s') sz' 0)) (J' 101) := by
  have hng' := hW'.2.2.2.1
  obtain ⟨z', h1', J', u', rfl, j1', j2', j3'⟩ := p_lp (fun z' => B_X12_run_47 87 (Int32.ofNat k') l2' z'.1 z'.2) (fun i' z' => ∃ J' u', z' = (Int32.ofNat i', (J', p_T X' u')) ∧ (∀ c', c' ≠ 87 → c' ≠ 91 → c' ≠ 102 → c' ≠ 101 → J' c' = I' c') ∧ (∀ j', ¬ t_m87 j' → J' 87 j' = I' 87 j') ∧ t_RS (yq_ws H' L' e' s' i') (J' 101) ∧ (∃ n', n' ≤ 60 ∧ J' 101 36 = Int32.ofNat n') ∧ t_GS H' (yq_ws H' L' e' s' i') ∧ yq_ff (yq_wc H' L' e' s') (sz' - i') i' = yq_ff (yq_wc H' L' e' s') sz' 0)
    (fun z' => ∃ J' u', z' = (Int32.ofNat (yq_ff (yq_wc H' L' e' s') sz' 0), (J', p_T X' u')) ∧ (∀ c', c' ≠ 87 → c' ≠ 91 → c' ≠ 102 → c' ≠ 101 → J' c' = I' c') ∧ (∀ j', ¬ t_m87 j' → J' 87 j' = I' 87 j') ∧ t_RS (yq_ws H' L' e' s' (yq_ff (yq_wc H' L' e' s') sz' 0)) (J' 101)) sz' (by
      rintro i' z' hi' ⟨J', u', rfl, j1', j2', j3', j4', j5', j6'⟩
      have hB0' := hB'
      have hB' := p_BT hB0' u'
      have l99' : J' 99 k' = Int32.ofNat sz' := by rw [j1' 99 (by decide) (by decide) (by decide) (by decide)]; exact h99'
      have hlt8' : (Int32.ofNat i' < Int32.ofNat sz') = (i' < sz') := p_lt i' sz' (by omega) (by omega)
      unfold B_X12_run_47
      by_cases hlt' : i' < sz'
      · obtain ⟨q', q1', q2'⟩ := hq' i' hlt'
        have e98' : ∀ j', j' < 3 → J' 98 (3 * (16 * k' + i') + j') = e' (3 * i' + j') := fun j' hj' => by
          rw [j1' 98 (by decide) (by decide) (by decide) (by decide), show 3 * (16 * k' + i') + j' = 48 * k' + (3 * i' + j') by omega]
          exact h98' _ (by omega)
        have e0' : J' 98 (3 * (16 * k' + i')) = Int32.ofNat q' := by rw [← q2']; exact e98' 0 (by omega)
        have hop' : yq_op e' i' = q' := by unfold yq_op; rw [q2']; exact p_nat q' (by omega)
        have hMJ' : t_HM H' J' := t_HMk hM' (j1' 92 (by decide) (by decide) (by decide) (by decide)) (j1' 94 (by decide) (by decide) (by decide) (by decide)) (j1' 96 (by decide) (by decide) (by decide) (by decide)) (j2' 26 (by omega)) (j2' 27 (by omega))
        have hLJ' : t_LM L' (p_T X' u') J' := t_LMk (t_LMT hL' u') (j2' 34 (by omega)) (j1' 89 (by decide) (by decide) (by decide) (by decide)) (j1' 90 (by decide) (by decide) (by decide) (by decide))
        have hcs' := s_canStep (X' := p_T X' u') (c' := 101) hB' hMJ' hng' (.inr rfl) j3' (r' := 3 * (16 * k' + i')) (by omega) q1' e0' (e98' 1 (by omega)) (e98' 2 (by omega))
        have hwc' : yq_wc H' L' e' s' i' = t_can H' (yq_ws H' L' e' s' i') q' (e' (3 * i' + 1)) (e' (3 * i' + 2)) := by unfold yq_wc; rw [hop']
        rw [← hwc'] at hcs'
        have e60' : sz' - i' = (sz' - (i' + 1)) + 1 := by omega
        rw [e60', yq_ff] at j6'
        obtain ⟨g1', g2', D', g3', g4'⟩ := id j5'
        cases hb' : yq_wc H' L' e' s' i'
        · right
          rw [hb'] at j6' hcs'
          rw [if_neg (by decide)] at j6'
          simp (disch := omega) only [↓ce_87 hB', rf_87 hB', ↓ce_99 hB', ↓nn_31, ↓nn_33, ↓nn_89, ↓nn_90, ↓nn_91, ↓nn_92, ↓nn_93, ↓nn_94, ↓nn_95, ↓nn_96, ↓nn_97, ↓nn_98, ↓nn_99, ↓nn_100, ↓nn_101, ↓nn_102, ↓nn_103, ↓nn_104, ↓nn_105, ↓nn_106, ↓nn_107, ↓nn_108, p_bs, p_rq0, p_rq1, p_rz0, p_rz1, p_us, p_un, p_uj, ↓reduceIte, l99', hlt8', hlt', p_ar, hcs', t_b0]
          exact ⟨_, rfl, J', u', by rw [← j6'], j1', j2', by rw [← j6']; exact j3'⟩
        · left
          rw [hwc'] at hb'
          obtain ⟨K', u'', k1', k2', k3', k4', k5'⟩ := s_goStep (X' := p_T X' u') (I' := J') (c' := 101) (L' := L') hB' (fun c' hc' => by rw [j1' c' (by omega) (by omega) (by omega) (by omega)]; exact hS0' c' hc') hMJ' hW' g1' (.inr rfl) j3' hLJ' g3' (by omega) j4' (r' := 3 * (16 * k' + i')) (by omega) q1' e0' (e98' 1 (by omega)) (e98' 2 (by omega)) hb'
          rw [p_TT] at k1'
          rw [← hwc'] at hb'
          rw [hb'] at j6' hcs'
          rw [if_pos rfl] at j6'
          simp (disch := omega) only [↓ce_87 hB', rf_87 hB', ↓ce_99 hB', ↓nn_31, ↓nn_33, ↓nn_89, ↓nn_90, ↓nn_91, ↓nn_92, ↓nn_93, ↓nn_94, ↓nn_95, ↓nn_96, ↓nn_97, ↓nn_98, ↓nn_99, ↓nn_100, ↓nn_101, ↓nn_102, ↓nn_103, ↓nn_104, ↓nn_105, ↓nn_106, ↓nn_107, ↓nn_108, p_bs, p_rq0, p_rq1, p_rz0, p_rz1, p_us, p_un, p_uj, ↓reduceIte, l99', hlt8', hlt', p_ar, hcs', k1', t_b0, Bool.true_eq_false]
          rw [hwc'] at hb'
          have hb'' : t_can H' (yq_ws H' L' e' s' i') (yq_op e' i') (e' (3 * i' + 1)) (e' (3 * i' + 2)) = true := by rw [hop']; exact hb'
          have hGn' : t_GS H' (yq_ws H' L' e' s' (i' + 1)) := t_GSd hW' j5' (by omega) hb''
          refine ⟨_, rfl, True.intro, K', u'', rfl, fun c' z1' z2' z3' z4' => by rw [k2' c' z1' z2' z3' z4']; exact j1' c' z1' z2' z3' z4', fun j' hj' => by rw [k3' j' hj']; exact j2' j' hj', ?_, ?_, hGn', j6'⟩
          · by_cases eq0' : q' = 0
            · have hr' := (k4' eq0').1
              show t_RS (t_do H' L' (yq_ws H' L' e' s' i') (yq_op e' i') (e' (3 * i' + 1)) (e' (3 * i' + 2))) (K' 101)
              rw [hop', eq0']
              exact hr'
            · obtain ⟨-, x2', -⟩ := k5' eq0'
              have hr' := (t_RSd (L' := L') hng' g1' g2' g3' g4' j3' (show 1 ≤ q' by omega) (by omega) hb').2.2.2
              show t_RS (t_do H' L' (yq_ws H' L' e' s' i') (yq_op e' i') (e' (3 * i' + 1)) (e' (3 * i' + 2))) (K' 101)
              rw [hop', x2']
              exact hr'
          · by_cases eq0' : q' = 0
            · exact t_LU36 (k4' eq0').2
            · obtain ⟨-, x2', -⟩ := k5' eq0'
              obtain ⟨n', n1', n2'⟩ := j4'
              refine ⟨n', n1', ?_⟩
              rw [x2', ← n2']
              have ho' : q' = 1 ∨ q' = 2 ∨ q' = 3 ∨ q' = 4 := by omega
              rcases ho' with rfl | rfl | rfl | rfl
              · exact p_vn _ _ _ _ (by decide)
              · exact p_vn _ _ _ _ (by decide)
              · exact (p_vn _ _ _ _ (by decide)).trans (p_vn _ _ _ _ (by decide))
              · obtain ⟨g', m', c1', c2', c3', -⟩ := t_can4 hb' hng'
                exact p_vn _ _ _ _ (by rw [c3']; omega)
      · right
        have hi'' : i' = sz' := by omega
        subst hi''
        rw [Nat.sub_self, yq_ff] at j6'
        simp (disch := omega) only [↓ce_87 hB', rf_87 hB', ↓ce_99 hB', ↓nn_31, ↓nn_33, ↓nn_89, ↓nn_90, ↓nn_91, ↓nn_92, ↓nn_93, ↓nn_94, ↓nn_95, ↓nn_96, ↓nn_97, ↓nn_98, ↓nn_99, ↓nn_100, ↓nn_101, ↓nn_102, ↓nn_103, ↓nn_104, ↓nn_105, ↓nn_106, ↓nn_107, ↓nn_108, p_bs, p_rq0, p_rq1, p_rz0, p_rz1, p_us, p_un, p_uj, ↓reduceIte, l99', hlt8', Nat.lt_irrefl]
        exact ⟨_, rfl, J', u', by rw [← j6'], j1', j2', by rw [← j6']; exact j3'⟩) sz' 0 q_fu (0, (I', X')) (by omega) (by unfold q_fu; omega) ⟨I', X'.2.1 87 5, by rw [p_Ts]; rfl, fun _ _ _ _ _ => rfl, fun _ _ => rfl, hR', h36', hG', rfl⟩
  exact ⟨J', u', h1', j1', j2', j3'⟩
end PR'
