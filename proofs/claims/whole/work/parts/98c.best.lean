/-! best: the reference -/
theorem p_div (a' b' : Nat) (ha' : a' < 2147483648) (hb' : b' < 2147483648) : Int32.ofNat a' / Int32.ofNat b' = Int32.ofNat (a' / b') := by
  apply Int32.toInt_inj.mp
  rw [Int32.toInt_div_of_ne_left]
  · rw [Int32.toInt_ofNat_of_lt (by omega), Int32.toInt_ofNat_of_lt (by omega), Int32.toInt_ofNat_of_lt (Nat.lt_of_le_of_lt (Nat.div_le_self _ _) (by omega))]
    rfl
  · intro e'
    have := congrArg Int32.toInt e'
    rw [Int32.toInt_ofNat_of_lt (by omega)] at this
    have h1' : Int32.minValue.toInt = -2147483648 := rfl
    omega
theorem p_mod (a' b' : Nat) (ha' : a' < 2147483648) (hb' : b' < 2147483648) : Int32.ofNat a' - Int32.ofNat a' / Int32.ofNat b' * Int32.ofNat b' = Int32.ofNat (a' % b') := by
  have e2' : Int32.ofNat a' = Int32.ofNat (a' / b' * b') + Int32.ofNat (a' % b') := by
    rw [← Int32.ofNat_add, Nat.mul_comm, Nat.div_add_mod]
  rw [p_div a' b' ha' hb', ← Int32.ofNat_mul]
  rw [e2', Int32.add_comm, Int32.add_sub_cancel]
theorem yq_ar {n' k' : Nat} (hk' : k' < n') (hn' : n' ≤ 3) (r' : Nat) : 10 ^ n' / 10 / 10 ^ k' = 10 ^ (n' - (k' + 1)) ∧ 0 < 10 ^ (n' - (k' + 1)) ∧ 10 ^ (n' - (k' + 1)) ≤ 1000 ∧ 10 ^ n' / 10 / 10 ^ k' / 10 = 10 ^ n' / 10 / 10 ^ (k' + 1) ∧ r' / 10 ^ (n' - (k' + 1)) / 10 = r' / 10 ^ (n' - k') ∧ (k' + 1) + (n' - (k' + 1)) = n' := by
  have ho' : (n' = 1 ∧ k' = 0) ∨ (n' = 2 ∧ k' = 0) ∨ (n' = 2 ∧ k' = 1) ∨ (n' = 3 ∧ k' = 0) ∨ (n' = 3 ∧ k' = 1) ∨ (n' = 3 ∧ k' = 2) := by omega
  rcases ho' with ⟨rfl, rfl⟩ | ⟨rfl, rfl⟩ | ⟨rfl, rfl⟩ | ⟨rfl, rfl⟩ | ⟨rfl, rfl⟩ | ⟨rfl, rfl⟩ <;> refine ⟨by decide, by decide, by decide, by decide, ?_, by decide⟩ <;> simp only [Nat.reduceAdd, Nat.reduceSub, Nat.reducePow] <;> omega
section PB'
variable {X' : p_X} {I' : p_I} {H' : t_H} {L' : t_L} {s' : Nat → Int32}
noncomputable def yq_st (H' : t_H) (L' : t_L) (s' : Nat → Int32) (n' r' k' : Nat) : Nat → Int32 := if k' ≤ n' then yq_sp H' L' s' k' (r' / 10 ^ (n' - k')) else t_yi H' L' (yq_sp H' L' s' n' r') (k' - n')
theorem s_bestIn (hB' : p_B X') (hS0' : p_S I') (hM' : t_HM H' I') (hW' : t_HW H') (hS' : t_WF H' s') (hR' : t_RS s' (I' 101)) (h36' : ∃ n', n' ≤ 60 ∧ I' 101 36 = Int32.ofNat n') (hL' : t_LM L' X' I') {D' : Nat} (hD' : s' 0 = Int32.ofNat D') (hD'' : D' ≤ 999) {n' r' : Nat} (hn0' : 1 ≤ n') (hn' : n' ≤ 3) (hr' : r' < 10 ^ n') (l2' l3' l4' l5' : Int32) : ∃ J' u', q_lp (fun z' => B_X12_best_102 87 (Int32.ofNat n') l2' l3' l4' l5' (Int32.ofNat r') z'.1 z'.2.1 z'.2.2.1 z'.2.2.2) q_fu ((1 : Int32), Int32.ofNat (10 ^ n' / 10), (0 : Int32), (I', X')) = some (t_b (yq_ok (t_nd H') n' r'), (J', p_T X' u')) ∧ (∀ c', c' ≠ 87 → c' ≠ 91 → c' ≠ 102 → c' ≠ 101 → J' c' = I' c') ∧ (∀ j', ¬ t_m87 j' → J' 87 j' = I' 87 j') ∧ (yq_ok (t_nd H') n' r' = true → t_RS (t_yi H' L' (yq_sp H' L' s' n' r') 3) (J' 101)) := by
  have hnd' := hW'.2.1
  have hng' := hW'.2.2.2.1
  have hp1000 := yq_p10 n' hn'
  obtain ⟨z', h1', J', u', rfl, j1', j2', j3'⟩ := p_lp (fun z' => B_X12_best_102 87 (Int32.ofNat n') l2' l3' l4' l5' (Int32.ofNat r') z'.1 z'.2.1 z'.2.2.1 z'.2.2.2) (fun k' z' => ∃ J' u', (∀ c', c' ≠ 87 → c' ≠ 91 → c' ≠ 102 → c' ≠ 101 → J' c' = I' c') ∧ (∀ j', ¬ t_m87 j' → J' 87 j' = I' 87 j') ∧ ((z' = (1, Int32.ofNat (10 ^ n' / 10 / 10 ^ k'), Int32.ofNat k', (J', p_T X' u')) ∧ yq_ok (t_nd H') (min k' n') (r' / 10 ^ (n' - k')) = true ∧ t_RS (yq_st H' L' s' n' r' k') (J' 101) ∧ (∃ n', n' ≤ 60 ∧ J' 101 36 = Int32.ofNat n') ∧ t_WF H' (yq_st H' L' s' n' r' k') ∧ yq_st H' L' s' n' r' k' 0 = Int32.ofNat (D' + k')) ∨ (∃ w', z' = (0, w', Int32.ofNat k', (J', p_T X' u')) ∧ yq_ok (t_nd H') n' r' = false)))
    (fun z' => ∃ J' u', z' = (t_b (yq_ok (t_nd H') n' r'), (J', p_T X' u')) ∧ (∀ c', c' ≠ 87 → c' ≠ 91 → c' ≠ 102 → c' ≠ 101 → J' c' = I' c') ∧ (∀ j', ¬ t_m87 j' → J' 87 j' = I' 87 j') ∧ (yq_ok (t_nd H') n' r' = true → t_RS (t_yi H' L' (yq_sp H' L' s' n' r') 3) (J' 101))) (n' + 3) (by
      rintro k' z' hk' ⟨J', u', j1', j2', hz'⟩
      have hB0' := hB'
      have hB' := p_BT hB0' u'
      have hn3' : Int32.ofNat n' + 3 = Int32.ofNat (n' + 3) := (Int32.ofNat_add n' 3).symm
      have hl3' : (Int32.ofNat k' < Int32.ofNat (n' + 3)) = (k' < n' + 3) := p_lt k' _ (by omega) (by omega)
      have hln' : (Int32.ofNat k' < Int32.ofNat n') = (k' < n') := p_lt k' n' (by omega) (by omega)
      rcases hz' with ⟨rfl, z1', z2', z3', z4', z5'⟩ | ⟨w', rfl, z1'⟩
      · by_cases hlt' : k' < n' + 3
        · left
          have hMJ' : t_HM H' J' := t_HMk hM' (j1' 92 (by decide) (by decide) (by decide) (by decide)) (j1' 94 (by decide) (by decide) (by decide) (by decide)) (j1' 96 (by decide) (by decide) (by decide) (by decide)) (j2' 26 (by omega)) (j2' 27 (by omega))
          have hLJ' : t_LM L' (p_T X' u') J' := t_LMk (t_LMT hL' u') (j2' 34 (by omega)) (j1' 89 (by decide) (by decide) (by decide) (by decide)) (j1' 90 (by decide) (by decide) (by decide) (by decide))
          have hSJ' : p_S J' := fun c' hc' => by rw [j1' c' (by omega) (by omega) (by omega) (by omega)]; exact hS0' c' hc'
          unfold B_X12_best_102 J_X12_best_157_102 J_X12_best_172_102
          by_cases hkn' : k' < n'
          · obtain ⟨b1', b2', b3', b4', b5', b6'⟩ := yq_ar hkn' hn' r'
            obtain ⟨U', hU'⟩ : ∃ U', U' = 10 ^ (n' - (k' + 1)) := ⟨_, rfl⟩
            rw [← hU'] at b1' b2' b3' b5'
            have hst' : yq_st H' L' s' n' r' k' = yq_sp H' L' s' k' (r' / U' / 10) := by
              unfold yq_st
              rw [if_pos (by omega), b5']
            rw [hst'] at z2' z4' z5'
            rw [Nat.min_eq_left (by omega), ← b5'] at z1'
            have hU1' : r' / U' < 2147483648 := Nat.lt_of_le_of_lt (Nat.div_le_self _ _) (by omega)
            have e1' : ∀ f' : Int32 → Option ((Int32 × Int32 × Int32 × q_Mem) ⊕ (Int32 × q_Mem)), q_dvi (Int32.ofNat r') (Int32.ofNat (10 ^ n' / 10 / 10 ^ k')) f' = f' (Int32.ofNat (r' / U')) := fun f' => by
              unfold q_dvi
              rw [b1', if_neg, p_div r' U' (by omega) (by omega)]
              intro e'
              have := p_inj (show Int32.ofNat U' = Int32.ofNat 0 from e') (by omega) (by omega)
              omega
            have e2' : ∀ f' : Int32 → Option ((Int32 × Int32 × Int32 × q_Mem) ⊕ (Int32 × q_Mem)), q_rmi (Int32.ofNat (r' / U')) 10 f' = f' (Int32.ofNat (r' / U' % 10)) := fun f' => by
              unfold q_rmi
              rw [if_neg (by decide), show (10 : Int32) = Int32.ofNat 10 from rfl, p_mod (r' / U') 10 hU1' (by omega)]
            have e3' : ∀ f' : Int32 → Option ((Int32 × Int32 × Int32 × q_Mem) ⊕ (Int32 × q_Mem)), q_dvi (Int32.ofNat (10 ^ n' / 10 / 10 ^ k')) 10 f' = f' (Int32.ofNat (10 ^ n' / 10 / 10 ^ (k' + 1))) := fun f' => by
              unfold q_dvi
              rw [if_neg (by decide), show (10 : Int32) = Int32.ofNat 10 from rfl, p_div _ 10 (by rw [b1']; omega) (by omega), b4']
            have hdL' : r' / U' % 10 < 10 := Nat.mod_lt _ (by decide)
            have hdi' := s_isDish (X' := p_T X' u') hB' hMJ' (Int32.ofNat (r' / U' % 10))
            rw [t_inrN _ _ (by omega) (by omega)] at hdi'
            have f101 : ∀ c', c' ≠ 101 → q_u2 J' 101 34 (Int32.ofNat (r' / U' % 10) + 1) c' = J' c' := fun c' hc' => p_uc _ _ _ _ _ hc'
            have g101 : q_u2 J' 101 34 (Int32.ofNat (r' / U' % 10) + 1) 101 = va_up (J' 101) 34 (Int32.ofNat (r' / U' % 10) + 1) := p_ur _ _ _ _
            generalize hJ1' : q_u2 J' 101 34 (Int32.ofNat (r' / U' % 10) + 1) = J1' at f101 g101
            have ht' : ∀ f' : q_Mem → Option ((Int32 × Int32 × Int32 × q_Mem) ⊕ (Int32 × q_Mem)), q_tI (J', p_T X' u') 101 34 (Int32.ofNat (r' / U' % 10 + 1)) f' = f' (J1', p_T X' u') := fun f' => by
              rw [← hJ1', show Int32.ofNat (r' / U' % 10 + 1) = Int32.ofNat (r' / U' % 10) + 1 from Int32.ofNat_add _ 1]
              exact p_tI (sh_101 hB') (by decide) (by decide) J' 34 _ f' (by decide)
            by_cases hd' : r' / U' % 10 < t_nd H'
            · have hR1' : t_RS (va_up (yq_sp H' L' s' k' (r' / U' / 10)) 3 (Int32.ofNat (r' / U' % 10))) (J1' 101) := by rw [g101]; exact t_RSu3 z2' _
              obtain ⟨q', q1', q2'⟩ := z3'
              obtain ⟨K', u'', k1', k2', k3', k4', k5'⟩ := s_goDay (X' := p_T X' u') (I' := J1') (s' := va_up (yq_sp H' L' s' k' (r' / U' / 10)) 3 (Int32.ofNat (r' / U' % 10))) (c' := 101) (L' := L') hB' (fun c' hc' => by rw [f101 c' (by omega)]; exact hSJ' c' hc') (t_HMk hMJ' (f101 92 (by decide)) (f101 94 (by decide)) (f101 96 (by decide)) (by rw [f101 87 (by decide)]) (by rw [f101 87 (by decide)])) hW' (yq_upW z4' hd') (.inr rfl) hR1' (t_LMk hLJ' (by rw [f101 87 (by decide)]) (f101 89 (by decide)) (f101 90 (by decide))) (D' := D' + k') (by rw [p_vn _ _ _ _ (by omega)]; exact z5') (by omega) q1' (by rw [g101, p_vn _ _ _ _ (by omega)]; exact q2')
              rw [p_TT] at k1'
              have hst1' : yq_st H' L' s' n' r' (k' + 1) = t_ps H' L' (va_up (yq_sp H' L' s' k' (r' / U' / 10)) 3 (Int32.ofNat (r' / U' % 10))) := by
                unfold yq_st
                rw [if_pos (by omega), ← hU']
                rfl
              have hps' := t_psW (L' := L') hW' (yq_upW z4' hd') (D' := D' + k') (by rw [p_vn _ _ _ _ (by omega)]; exact z5') (by omega)
              refine ⟨(1, Int32.ofNat (10 ^ n' / 10 / 10 ^ (k' + 1)), Int32.ofNat (k' + 1), (K', p_T X' u'')), ?_, hlt', K', u'', fun c' y1' y2' y3' y4' => by rw [k2' c' y1' y2' y3' y4', f101 c' y4']; exact j1' c' y1' y2' y3' y4', fun j' hj' => by rw [k3' j' (by omega) (by omega) (by omega), f101 87 (by decide)]; exact j2' j' hj', .inl ⟨rfl, ?_, by rw [hst1']; exact k4', t_LU36 k5', by rw [hst1']; exact hps'.1, by rw [hst1']; exact hps'.2⟩⟩
              · rw [decide_eq_true hd'] at hdi'
                simp (disch := omega) only [↓ce_87 hB', rf_87 hB', ↓nn_31, ↓nn_33, ↓nn_89, ↓nn_90, ↓nn_91, ↓nn_92, ↓nn_93, ↓nn_94, ↓nn_95, ↓nn_96, ↓nn_97, ↓nn_98, ↓nn_99, ↓nn_100, ↓nn_101, ↓nn_102, ↓nn_103, ↓nn_104, ↓nn_105, ↓nn_106, ↓nn_107, ↓nn_108, p_bs, p_rq0, p_rq1, p_rz0, p_rz1, p_us, p_un, p_uj, ↓reduceIte, hn3', hl3', hlt', hln', hkn', show ((1 : Int32) = 0) = False from by decide, e1', e2', e3', hdi', ht', t_b0, Bool.true_eq_false, k1', p_ar]
                rfl
              · rw [Nat.min_eq_left (by omega), ← hU', yq_ok, z1']
                simp [hd']
            · refine ⟨(0, Int32.ofNat (10 ^ n' / 10 / 10 ^ (k' + 1)), Int32.ofNat (k' + 1), (J1', p_T X' u')), ?_, hlt', J1', u', fun c' y1' y2' y3' y4' => by rw [f101 c' y4']; exact j1' c' y1' y2' y3' y4', fun j' hj' => by rw [f101 87 (by decide)]; exact j2' j' hj', .inr ⟨_, rfl, ?_⟩⟩
              · rw [decide_eq_false hd'] at hdi'
                simp (disch := omega) only [↓ce_87 hB', rf_87 hB', ↓nn_31, ↓nn_33, ↓nn_89, ↓nn_90, ↓nn_91, ↓nn_92, ↓nn_93, ↓nn_94, ↓nn_95, ↓nn_96, ↓nn_97, ↓nn_98, ↓nn_99, ↓nn_100, ↓nn_101, ↓nn_102, ↓nn_103, ↓nn_104, ↓nn_105, ↓nn_106, ↓nn_107, ↓nn_108, p_bs, p_rq0, p_rq1, p_rz0, p_rz1, p_us, p_un, p_uj, ↓reduceIte, hn3', hl3', hlt', hln', hkn', show ((1 : Int32) = 0) = False from by decide, e1', e2', e3', hdi', ht', t_b0, p_ar]
                rfl
              · rw [← Bool.not_eq_true]
                intro hok'
                rw [← b6'] at hok'
                have := yq_okD _ _ _ _ hok'
                rw [← hU', yq_ok, Bool.and_eq_true, decide_eq_true_eq] at this
                exact hd' this.2
          · obtain ⟨q', q1', q2'⟩ := z3'
            obtain ⟨K', u'', k1', k2', k3', k4', k5'⟩ := s_goDay (X' := p_T X' u') (I' := J') (s' := yq_st H' L' s' n' r' k') (c' := 101) (L' := L') hB' hSJ' hMJ' hW' z4' (.inr rfl) z2' hLJ' (D' := D' + k') z5' (by omega) q1' q2'
            rw [p_TT] at k1'
            have hst1' : yq_st H' L' s' n' r' (k' + 1) = t_ps H' L' (yq_st H' L' s' n' r' k') := by
              unfold yq_st
              rw [if_neg (by omega), show k' + 1 - n' = k' - n' + 1 by omega, t_yi]
              by_cases hkn2' : k' ≤ n'
              · rw [if_pos hkn2', show k' = n' by omega, Nat.sub_self, Nat.pow_zero, Nat.div_one]
                rfl
              · rw [if_neg hkn2']
            have hU0' : 10 ^ n' / 10 / 10 ^ k' = 10 ^ n' / 10 / 10 ^ (k' + 1) := by
              have h1' : 10 ^ n' / 10 < 10 ^ n' := Nat.div_lt_self (Nat.pow_pos (by decide)) (by decide)
              have h2' : 10 ^ n' ≤ 10 ^ k' := Nat.pow_le_pow_right (by decide) (by omega)
              have h3' : 10 ^ n' ≤ 10 ^ (k' + 1) := Nat.pow_le_pow_right (by decide) (by omega)
              rw [Nat.div_eq_of_lt (by omega), Nat.div_eq_of_lt (by omega)]
            have hps' := t_psW (L' := L') hW' z4' (D' := D' + k') z5' (by omega)
            refine ⟨(1, Int32.ofNat (10 ^ n' / 10 / 10 ^ (k' + 1)), Int32.ofNat (k' + 1), (K', p_T X' u'')), ?_, hlt', K', u'', fun c' y1' y2' y3' y4' => by rw [k2' c' y1' y2' y3' y4']; exact j1' c' y1' y2' y3' y4', fun j' hj' => by rw [k3' j' (by omega) (by omega) (by omega)]; exact j2' j' hj', .inl ⟨rfl, ?_, by rw [hst1']; exact k4', t_LU36 k5', by rw [hst1']; exact hps'.1, by rw [hst1']; exact hps'.2⟩⟩
            · simp (disch := omega) only [↓ce_87 hB', rf_87 hB', ↓nn_31, ↓nn_33, ↓nn_89, ↓nn_90, ↓nn_91, ↓nn_92, ↓nn_93, ↓nn_94, ↓nn_95, ↓nn_96, ↓nn_97, ↓nn_98, ↓nn_99, ↓nn_100, ↓nn_101, ↓nn_102, ↓nn_103, ↓nn_104, ↓nn_105, ↓nn_106, ↓nn_107, ↓nn_108, p_bs, p_rq0, p_rq1, p_rz0, p_rz1, p_us, p_un, p_uj, ↓reduceIte, hn3', hl3', hlt', hln', hkn', show ((1 : Int32) = 0) = False from by decide, k1', hU0', p_ar]
            · rw [Nat.min_eq_right (by omega), show n' - (k' + 1) = n' - k' by omega]
              rw [Nat.min_eq_right (by omega)] at z1'
              exact z1'
        · right
          have hk'' : k' = n' + 3 := by omega
          subst hk''
          have hokn : yq_ok (t_nd H') n' r' = true := by
            rw [Nat.min_eq_right (by omega), show n' - (n' + 3) = 0 by omega, Nat.pow_zero, Nat.div_one] at z1'
            exact z1'
          unfold B_X12_best_102
          simp (disch := omega) only [p_bs, p_rq0, p_rq1, p_rz0, p_rz1, p_us, p_un, p_uj, ↓reduceIte, hn3', hl3', Nat.lt_irrefl]
          refine ⟨_, rfl, J', u', by rw [hokn]; rfl, j1', j2', fun _ => ?_⟩
          unfold yq_st at z2'
          rw [if_neg (by omega), show n' + 3 - n' = 3 by omega] at z2'
          exact z2'
      · right
        unfold B_X12_best_102
        refine ⟨(0, (J', p_T X' u')), ?_, J', u', by rw [z1']; rfl, j1', j2', fun h' => absurd h' (by rw [z1']; decide)⟩
        by_cases hlt' : k' < n' + 3
        · simp (disch := omega) only [p_bs, p_rq0, p_rq1, p_rz0, p_rz1, p_us, p_un, p_uj, ↓reduceIte, hn3', hl3', hlt']
        · simp (disch := omega) only [p_bs, p_rq0, p_rq1, p_rz0, p_rz1, p_us, p_un, p_uj, ↓reduceIte, hn3', hl3', hlt']) (n' + 3) 0 q_fu (1, Int32.ofNat (10 ^ n' / 10), 0, (I', X')) (by omega) (by unfold q_fu; omega) ⟨I', X'.2.1 87 5, fun _ _ _ _ _ => rfl, fun _ _ => rfl, .inl ⟨by rw [p_Ts, Nat.pow_zero, Nat.div_one]; rfl, by rw [Nat.min_eq_left (by omega)]; rfl, by unfold yq_st; rw [if_pos (by omega)]; exact hR', h36', by unfold yq_st; rw [if_pos (by omega)]; exact hS', by unfold yq_st; rw [if_pos (by omega)]; exact hD'⟩⟩
  exact ⟨J', u', h1', j1', j2', j3'⟩
end PB'
