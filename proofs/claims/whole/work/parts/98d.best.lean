/-! best: both -/
section PB'
variable {X' : p_X} {I' : p_I} {H' : t_H} {L' : t_L} {s' : Nat → Int32}
theorem yq_ok0 {nd' : Nat} (h' : 0 < nd') (k' : Nat) : yq_ok nd' k' 0 = true := by
  induction k' with
  | zero => rfl
  | succ k' ih' =>
    rw [yq_ok, Nat.zero_div, ih', Nat.zero_mod]
    simp [h']
theorem yq_bfX (V' : Nat → Option Int32) (a' : Int32 × Int32) (j' : Int32) (h0' : V' 0 = some j') (ha' : a'.2 < j') (m' : Nat) : ∃ x', x' ≤ m' ∧ (yq_bf V' a' 0 (m' + 1)).1 = Int32.ofNat x' := by
  induction m' with
  | zero =>
    refine ⟨0, Nat.le_refl _, ?_⟩
    rw [yq_bf, yq_bf, yq_bu, h0']
    simp only [ha', ↓reduceIte]
  | succ m' ih' =>
    obtain ⟨x', h1', h2'⟩ := ih'
    rw [yq_bf, yq_bu]
    split
    · exact ⟨x', by omega, h2'⟩
    · split
      · exact ⟨0 + (m' + 1), by omega, rfl⟩
      · exact ⟨x', by omega, h2'⟩
theorem s_bestM (hB' : p_B X') (hS0' : p_S I') (hM' : t_HM H' I') (hW' : t_HW H') (hS' : t_WF H' s') (hR' : t_RS s' (I' 100)) (hL' : t_LM L' X' I') {D' : Nat} (hD' : s' 0 = Int32.ofNat D') (hD'' : D' ≤ 999) {n' : Nat} (hn0' : 1 ≤ n') (hn' : n' ≤ 3) (l2' : Int32) : ∃ J' u', q_lp (fun z' => B_X12_best_71 87 (Int32.ofNat n') l2' (Int32.ofNat (10 ^ n')) z'.1 z'.2.1 z'.2.2.1 z'.2.2.2) q_fu ((-1 : Int32), (0 : Int32), (0 : Int32), (I', X')) = some ((yq_bf (yq_V H' L' s' n') (0, -1000000) 0 (10 ^ n')).1, (yq_bf (yq_V H' L' s' n') (0, -1000000) 0 (10 ^ n')).2, (J', p_T X' u')) ∧ (∀ c', c' ≠ 87 → c' ≠ 91 → c' ≠ 102 → c' ≠ 101 → J' c' = I' c') ∧ (∀ j', ¬ t_m87 j' → J' 87 j' = I' 87 j') := by
  have hnd' := hW'.2.1
  have hng' := hW'.2.2.2.1
  have hp1000 := yq_p10 n' hn'
  have hp1' : 1 ≤ 10 ^ n' := Nat.pow_pos (by decide)
  have hVW' : ∀ r', yq_ok (t_nd H') n' r' = true → t_WF H' (t_yi H' L' (yq_sp H' L' s' n' r') 3) := fun r' hr' => by
    obtain ⟨h1', h2'⟩ := yq_spW (L' := L') hW' hS' hD' n' r' (by omega) hr'
    exact (t_yiW (L' := L') hW' h1' h2' 3 (by omega)).1
  have hV0' : yq_V H' L' s' n' 0 = some (t_sm (t_yi H' L' (yq_sp H' L' s' n' 0) 3) 6) := by
    unfold yq_V
    rw [if_pos (yq_ok0 hW'.1 n')]
  have hj0' : (-1000000 : Int32) < t_sm (t_yi H' L' (yq_sp H' L' s' n' 0) 3) 6 := by
    have := t_smB (hVW' 0 (yq_ok0 hW'.1 n')) (n' := 6) (by omega)
    rw [Int32.lt_iff_toInt_lt, show (-1000000 : Int32).toInt = -1000000 from by decide]
    omega
  obtain ⟨V', hV'⟩ : ∃ V', V' = yq_V H' L' s' n' := ⟨_, rfl⟩
  rw [← hV'] at hV0' ⊢
  obtain ⟨z', h1', J', u', rfl, j1', j2'⟩ := p_lp (fun z' => B_X12_best_71 87 (Int32.ofNat n') l2' (Int32.ofNat (10 ^ n')) z'.1 z'.2.1 z'.2.2.1 z'.2.2.2) (fun r' z' => ∃ J' u', z' = ((if r' = 0 then -1 else (yq_bf V' (0, -1000000) 0 r').1), (if r' = 0 then 0 else (yq_bf V' (0, -1000000) 0 r').2), Int32.ofNat r', (J', p_T X' u')) ∧ (∀ c', c' ≠ 87 → c' ≠ 91 → c' ≠ 102 → c' ≠ 101 → J' c' = I' c') ∧ (∀ j', ¬ t_m87 j' → J' 87 j' = I' 87 j'))
    (fun z' => ∃ J' u', z' = ((yq_bf V' (0, -1000000) 0 (10 ^ n')).1, (yq_bf V' (0, -1000000) 0 (10 ^ n')).2, (J', p_T X' u')) ∧ (∀ c', c' ≠ 87 → c' ≠ 91 → c' ≠ 102 → c' ≠ 101 → J' c' = I' c') ∧ (∀ j', ¬ t_m87 j' → J' 87 j' = I' 87 j')) (10 ^ n') (by
      rintro r' z' hr' ⟨J', u', rfl, j1', j2'⟩
      have hB0' := hB'
      have hB' := p_BT hB0' u'
      have hl8' : (Int32.ofNat r' < Int32.ofNat (10 ^ n')) = (r' < 10 ^ n') := p_lt r' _ (by omega) (by omega)
      by_cases hlt' : r' < 10 ^ n'
      · left
        obtain ⟨J1', a1', a2', a3', a4'⟩ := s_mcopy (X' := p_T X' u') (I' := J') hB'
        have f1' : ∀ c', c' ≠ 87 → c' ≠ 91 → c' ≠ 102 → c' ≠ 101 → J1' c' = I' c' := fun c' y1' y2' y3' y4' => by rw [a2' c' y4']; exact j1' c' y1' y2' y3' y4'
        have f7' : ∀ j', ¬ t_m87 j' → J1' 87 j' = I' 87 j' := fun j' hj' => by rw [a2' 87 (by decide)]; exact j2' j' hj'
        have hM1' : t_HM H' J1' := t_HMk hM' (f1' 92 (by decide) (by decide) (by decide) (by decide)) (f1' 94 (by decide) (by decide) (by decide) (by decide)) (f1' 96 (by decide) (by decide) (by decide) (by decide)) (f7' 26 (by omega)) (f7' 27 (by omega))
        obtain ⟨K', u'', b1', b2', b3', b4'⟩ := s_bestIn (X' := p_T X' u') (I' := J1') (L' := L') hB' (fun c' hc' => by rw [f1' c' (by omega) (by omega) (by omega) (by omega)]; exact hS0' c' hc') hM1' hW' hS' (t_RSk hR' (fun j' hj' => by rw [a3' j' hj', j1' 100 (by decide) (by decide) (by decide) (by decide)])) ⟨0, by omega, a4'⟩ (t_LMk (t_LMT hL' u') (f7' 34 (by omega)) (f1' 89 (by decide) (by decide) (by decide) (by decide)) (f1' 90 (by decide) (by decide) (by decide) (by decide))) hD' hD'' hn0' hn' hlt' l2' (if r' = 0 then -1 else (yq_bf V' (0, -1000000) 0 r').1) (if r' = 0 then 0 else (yq_bf V' (0, -1000000) 0 r').2) (Int32.ofNat (10 ^ n'))
        rw [p_TT] at b1'
        have g1' : ∀ c', c' ≠ 87 → c' ≠ 91 → c' ≠ 102 → c' ≠ 101 → K' c' = I' c' := fun c' y1' y2' y3' y4' => by rw [b2' c' y1' y2' y3' y4']; exact f1' c' y1' y2' y3' y4'
        have g7' : ∀ j', ¬ t_m87 j' → K' 87 j' = I' 87 j' := fun j' hj' => by rw [b3' j' hj']; exact f7' j' hj'
        have hMK' : t_HM H' K' := t_HMk hM' (g1' 92 (by decide) (by decide) (by decide) (by decide)) (g1' 94 (by decide) (by decide) (by decide) (by decide)) (g1' 96 (by decide) (by decide) (by decide) (by decide)) (g7' 26 (by omega)) (g7' 27 (by omega))
        have hB1' := p_BT hB0' u''
        have e1' : ∀ f' : Int32 → Option ((Int32 × Int32 × Int32 × q_Mem) ⊕ (Int32 × Int32 × q_Mem)), q_dvi (Int32.ofNat (10 ^ n')) 10 f' = f' (Int32.ofNat (10 ^ n' / 10)) := fun f' => by
          unfold q_dvi
          rw [if_neg (by decide), show (10 : Int32) = Int32.ofNat 10 from rfl, p_div _ 10 (by omega) (by omega)]
        have hVr' : V' r' = if yq_ok (t_nd H') n' r' = true then some (t_sm (t_yi H' L' (yq_sp H' L' s' n' r') 3) 6) else none := by rw [hV']; rfl
        have hnext : yq_bf V' (0, -1000000) 0 (r' + 1) = yq_bu V' (yq_bf V' (0, -1000000) 0 r') r' := by rw [yq_bf, Nat.zero_add]
        unfold B_X12_best_71 J_X12_best_204_71 J_X12_best_217_71
        cases hok' : yq_ok (t_nd H') n' r'
        · have hr0' : (r' = 0) = False := by
            apply eq_false
            intro e'
            subst e'
            rw [yq_ok0 hW'.1 n'] at hok'
            cases hok'
          rw [hok', if_neg (by decide)] at hVr'
          rw [hok'] at b1'
          refine ⟨((if r' + 1 = 0 then -1 else (yq_bf V' (0, -1000000) 0 (r' + 1)).1), (if r' + 1 = 0 then 0 else (yq_bf V' (0, -1000000) 0 (r' + 1)).2), Int32.ofNat (r' + 1), (K', p_T X' u'')), ?_, hlt', K', u'', rfl, g1', g7'⟩
          rw [hnext, yq_bu, hVr']
          simp (disch := omega) only [↓ce_87 hB', rf_87 hB', ↓nn_31, ↓nn_33, ↓nn_89, ↓nn_90, ↓nn_91, ↓nn_92, ↓nn_93, ↓nn_94, ↓nn_95, ↓nn_96, ↓nn_97, ↓nn_98, ↓nn_99, ↓nn_100, ↓nn_101, ↓nn_102, ↓nn_103, ↓nn_104, ↓nn_105, ↓nn_106, ↓nn_107, ↓nn_108, p_bs, p_rq0, p_rq1, p_rz0, p_rz1, p_us, p_un, p_uj, ↓reduceIte, hl8', hlt', a1', e1', b1', t_b0, p_ar]
          simp only [hr0', ↓reduceIte, Nat.add_eq_zero_iff, Nat.succ_ne_self, false_and, Nat.one_ne_zero, and_false]
        · rw [hok', if_pos rfl] at hVr'
          rw [hok'] at b1'
          have hj' : F_X12_joys 87 101 (K', p_T X' u'') = some (t_sm (t_yi H' L' (yq_sp H' L' s' n' r') 3) 6) := by
            have := s_joys (s' := t_yi H' L' (yq_sp H' L' s' n' r') 3) (c' := 101) hB1' hMK' hW' (.inr rfl) (fun g' hg' => ((b4' hok').1.1 g' hg').2.2.1)
            rw [t_sm6 hng' (hVW' r' hok')] at this
            exact this
          have r1' : (r' + 1 = 0) = False := by simp
          refine ⟨((if r' + 1 = 0 then -1 else (yq_bf V' (0, -1000000) 0 (r' + 1)).1), (if r' + 1 = 0 then 0 else (yq_bf V' (0, -1000000) 0 (r' + 1)).2), Int32.ofNat (r' + 1), (K', p_T X' u'')), ?_, hlt', K', u'', rfl, g1', g7'⟩
          by_cases hr0' : r' = 0
          · subst hr0'
            have hbu' : yq_bu V' (yq_bf V' (0, -1000000) 0 0) 0 = (Int32.ofNat 0, t_sm (t_yi H' L' (yq_sp H' L' s' n' 0) 3) 6) := by
              rw [yq_bu, hVr']
              show (if (-1000000 : Int32) < t_sm (t_yi H' L' (yq_sp H' L' s' n' 0) 3) 6 then _ else _) = _
              rw [if_pos hj0']
            rw [hnext, hbu']
            simp only [↓reduceIte] at b1' ⊢
            simp (disch := omega) only [↓ce_87 hB', rf_87 hB', ↓nn_31, ↓nn_33, ↓nn_89, ↓nn_90, ↓nn_91, ↓nn_92, ↓nn_93, ↓nn_94, ↓nn_95, ↓nn_96, ↓nn_97, ↓nn_98, ↓nn_99, ↓nn_100, ↓nn_101, ↓nn_102, ↓nn_103, ↓nn_104, ↓nn_105, ↓nn_106, ↓nn_107, ↓nn_108, p_bs, p_rq0, p_rq1, p_rz0, p_rz1, p_us, p_un, p_uj, ↓reduceIte, hl8', hlt', a1', e1', b1', t_b0, Bool.true_eq_false, p_ar]
            have hB' := hB1'
            simp (disch := omega) only [↓ce_87 hB', rf_87 hB', ↓nn_31, ↓nn_33, ↓nn_89, ↓nn_90, ↓nn_91, ↓nn_92, ↓nn_93, ↓nn_94, ↓nn_95, ↓nn_96, ↓nn_97, ↓nn_98, ↓nn_99, ↓nn_100, ↓nn_101, ↓nn_102, ↓nn_103, ↓nn_104, ↓nn_105, ↓nn_106, ↓nn_107, ↓nn_108, p_bs, p_rq0, p_rq1, p_rz0, p_rz1, p_us, p_un, p_uj, ↓reduceIte, hj', p_ar]
            rfl
          · obtain ⟨q', rfl⟩ : ∃ q', r' = q' + 1 := ⟨r' - 1, by omega⟩
            obtain ⟨x', x1', x2'⟩ := yq_bfX V' (0, -1000000) _ hV0' hj0' q'
            have xn' : ((yq_bf V' (0, -1000000) 0 (q' + 1)).1 = -1) = False := by rw [x2']; exact p_ofN1 x' (by omega)
            have q0' : (q' + 1 = 0) = False := by simp
            rw [hnext, yq_bu, hVr']
            simp only [q0', r1', ↓reduceIte] at b1' ⊢
            by_cases hc' : (yq_bf V' (0, -1000000) 0 (q' + 1)).2 < t_sm (t_yi H' L' (yq_sp H' L' s' n' (q' + 1)) 3) 6
            · simp (disch := omega) only [↓ce_87 hB', rf_87 hB', ↓nn_31, ↓nn_33, ↓nn_89, ↓nn_90, ↓nn_91, ↓nn_92, ↓nn_93, ↓nn_94, ↓nn_95, ↓nn_96, ↓nn_97, ↓nn_98, ↓nn_99, ↓nn_100, ↓nn_101, ↓nn_102, ↓nn_103, ↓nn_104, ↓nn_105, ↓nn_106, ↓nn_107, ↓nn_108, p_bs, p_rq0, p_rq1, p_rz0, p_rz1, p_us, p_un, p_uj, ↓reduceIte, hl8', hlt', a1', e1', b1', t_b0, Bool.true_eq_false, xn', p_ar]
              have hB' := hB1'
              simp (disch := omega) only [↓ce_87 hB', rf_87 hB', ↓nn_31, ↓nn_33, ↓nn_89, ↓nn_90, ↓nn_91, ↓nn_92, ↓nn_93, ↓nn_94, ↓nn_95, ↓nn_96, ↓nn_97, ↓nn_98, ↓nn_99, ↓nn_100, ↓nn_101, ↓nn_102, ↓nn_103, ↓nn_104, ↓nn_105, ↓nn_106, ↓nn_107, ↓nn_108, p_bs, p_rq0, p_rq1, p_rz0, p_rz1, p_us, p_un, p_uj, ↓reduceIte, hj', hc', p_ar]
            · simp (disch := omega) only [↓ce_87 hB', rf_87 hB', ↓nn_31, ↓nn_33, ↓nn_89, ↓nn_90, ↓nn_91, ↓nn_92, ↓nn_93, ↓nn_94, ↓nn_95, ↓nn_96, ↓nn_97, ↓nn_98, ↓nn_99, ↓nn_100, ↓nn_101, ↓nn_102, ↓nn_103, ↓nn_104, ↓nn_105, ↓nn_106, ↓nn_107, ↓nn_108, p_bs, p_rq0, p_rq1, p_rz0, p_rz1, p_us, p_un, p_uj, ↓reduceIte, hl8', hlt', a1', e1', b1', t_b0, Bool.true_eq_false, xn', p_ar]
              have hB' := hB1'
              simp (disch := omega) only [↓ce_87 hB', rf_87 hB', ↓nn_31, ↓nn_33, ↓nn_89, ↓nn_90, ↓nn_91, ↓nn_92, ↓nn_93, ↓nn_94, ↓nn_95, ↓nn_96, ↓nn_97, ↓nn_98, ↓nn_99, ↓nn_100, ↓nn_101, ↓nn_102, ↓nn_103, ↓nn_104, ↓nn_105, ↓nn_106, ↓nn_107, ↓nn_108, p_bs, p_rq0, p_rq1, p_rz0, p_rz1, p_us, p_un, p_uj, ↓reduceIte, hj', hc', p_ar]
      · right
        have hr'' : r' = 10 ^ n' := by omega
        subst hr''
        have hr0' : (10 ^ n' = 0) = False := by apply eq_false; omega
        unfold B_X12_best_71
        simp (disch := omega) only [p_bs, p_rq0, p_rq1, p_rz0, p_rz1, p_us, p_un, p_uj, ↓reduceIte, hl8', Nat.lt_irrefl, hr0']
        exact ⟨_, rfl, J', u', rfl, j1', j2'⟩) (10 ^ n') 0 q_fu (-1, 0, 0, (I', X')) (by omega) (by unfold q_fu; omega) ⟨I', X'.2.1 87 5, by rw [p_Ts]; rfl, fun _ _ _ _ _ => rfl, fun _ _ => rfl⟩
  exact ⟨J', u', h1', j1', j2'⟩
end PB'
section PB'
variable {A' : v_A} {X' : p_X} {I' : p_I}
theorem v_ask3 {I1' J' : p_I} {u' : Nat} (h' : v_V A' I' X') (h1' : ∀ c', c' ≠ 63 → c' ≠ 64 → c' ≠ 65 → c' ≠ p_sc X' → c' ≠ 67 → c' ≠ 74 → c' ≠ 76 → c' ≠ 78 → c' ≠ 80 → c' ≠ 82 → I1' c' = I' c') (h2' : ∀ c', c' ≠ 87 → c' ≠ 91 → c' ≠ 102 → c' ≠ 101 → c' ≠ 106 → J' c' = I1' c') (h3' : ∀ j', ¬ t_m87 j' → j' ≠ 0 → J' 87 j' = I1' 87 j') : v_V A' J' (p_T X' u') := by
  obtain ⟨L0', hLC', -⟩ := v_law h'
  have hsc' := p_scN hLC'
  refine v_keep h' ⟨fun c' z1' z2' => ?_, ?_, fun j' z1' z2' z3' z4' z5' z6' z7' => ?_, fun j' _ => ?_, fun j' _ => ?_, fun c' z1' z2' z3' z4' => ?_⟩ u'
  · rw [h2' c' (by omega) (by omega) (by omega) (by omega) (by omega), h1' c' (by omega) (by omega) (by omega) (by omega) (by omega) (by omega) (by omega) (by omega) (by omega) (by omega)]
  · rw [h2' 37 (by omega) (by omega) (by omega) (by omega) (by omega), h1' 37 (by omega) (by omega) (by omega) (by omega) (by omega) (by omega) (by omega) (by omega) (by omega) (by omega)]
  · rw [h3' j' (by omega) z4', h1' 87 (by omega) (by omega) (by omega) (by omega) (by omega) (by omega) (by omega) (by omega) (by omega) (by omega)]
  · rw [h2' 98 (by omega) (by omega) (by omega) (by omega) (by omega), h1' 98 (by omega) (by omega) (by omega) (by omega) (by omega) (by omega) (by omega) (by omega) (by omega) (by omega)]
  · rw [h2' 99 (by omega) (by omega) (by omega) (by omega) (by omega), h1' 99 (by omega) (by omega) (by omega) (by omega) (by omega) (by omega) (by omega) (by omega) (by omega) (by omega)]
  · rw [h2' c' (by omega) (by omega) (by omega) (by omega) (by omega), h1' c' (by omega) (by omega) (by omega) z2' (by omega) (by omega) (by omega) (by omega) (by omega) (by omega)]
theorem t_in13 {l' : Int32} {a' b' : Nat} (hb' : b' < 2147483648) {la' lb' : Int32} (ea' : la' = Int32.ofNat a') (eb' : lb' = Int32.ofNat b') (hab' : a' ≤ b') : (∀ (α : Type) (x' y' : α), (decide (la' ≤ l') && decide (l' ≤ lb')) = false → (if l' < la' then x' else if lb' < l' then x' else y') = x') ∧ ((decide (la' ≤ l') && decide (l' ≤ lb')) = true → ∃ n', a' ≤ n' ∧ n' ≤ b' ∧ l' = Int32.ofNat n') := by
  subst ea'
  subst eb'
  constructor
  · intro α x' y' hr'
    rw [Bool.and_eq_false_iff, decide_eq_false_iff_not, decide_eq_false_iff_not, Int32.not_le, Int32.not_le] at hr'
    rcases hr' with h' | h'
    · rw [if_pos h']
    · rw [if_pos h']; split <;> rfl
  · intro hr'
    rw [Bool.and_eq_true, decide_eq_true_eq, decide_eq_true_eq, Int32.le_iff_toInt_le, Int32.le_iff_toInt_le, p_toI a' (by omega), p_toI b' (by omega)] at hr'
    refine ⟨l'.toInt.toNat, by omega, by omega, ?_⟩
    apply Int32.toInt_inj.mp
    rw [p_toI _ (by omega)]
    omega
theorem m_best (h' : v_V A' I' X') (l' l2' : Int32) : ∃ r' I1' J' X1', F_X11_best 36 l' l2' (I', X') = some (r', (I1', X')) ∧ F_X12_best 87 l' l2' (I1', X') = some (r', (J', X1')) ∧ v_V A' J' X1' := by
  obtain ⟨L', hLC', hLM'⟩ := v_law h'
  have hsc' := p_scN hLC'
  obtain ⟨hB', hS', hT', hH', hN', hP', hG', hC', hL', hLH', hW', hD', hF'⟩ := id h'
  have h18' := hH'.1
  have hin' : ∀ M' : q_Mem, F_X12_isIn l'.toInt64 1 3 M' = some (t_b (decide (1 ≤ l') && decide (l' ≤ 3))) := fun M' => s_isIn3 l' 1 3 M'
  have hin2' : ∀ M' : q_Mem, F_X12_isIn l2'.toInt64 0 1 M' = some (t_b (t_inr l2' 2)) := fun M' => s_isInT l2' 1 (by decide) 0 1 rfl rfl M'
  rcases v_t h' with ⟨hz', hR', hHW'⟩ | hz'
  · rw [hz'] at h18'
    obtain ⟨k13', k13''⟩ := t_in13 (l' := l') (a' := 1) (b' := 3) (by decide) (la' := 1) (lb' := 3) rfl rfl (by decide)
    have h27' := (v_thr h').2.2.2.1.2.2.1.2.2.2.2
    cases hr' : (decide ((1 : Int32) ≤ l') && decide (l' ≤ 3))
    · refine ⟨-1000000, I', _, X', ?_, ?_, v_thr h'⟩
      · unfold F_X11_best
        simp (disch := omega) only [↓ce_36 hB', rf_36 hB', ↓nn_38, ↓nn_40, ↓nn_45, ↓nn_50, ↓nn_52, ↓nn_53, ↓nn_54, ↓nn_56, ↓nn_58, ↓nn_64, ↓nn_67, ↓nn_68, ↓nn_84, p_bs, p_rq0, p_rq1, p_rz0, p_rz1, p_us, p_un, p_uj, ↓reduceIte, h18', t_b0, Bool.true_eq_false]
        exact k13' _ _ _ hr'
      · unfold F_X12_best
        simp (disch := omega) only [↓ce_87 hB', rf_87 hB', ↓nn_31, ↓nn_33, ↓nn_89, ↓nn_90, ↓nn_91, ↓nn_92, ↓nn_93, ↓nn_94, ↓nn_95, ↓nn_96, ↓nn_97, ↓nn_98, ↓nn_99, ↓nn_100, ↓nn_101, ↓nn_102, ↓nn_103, ↓nn_104, ↓nn_105, ↓nn_106, ↓nn_107, ↓nn_108, p_bs, p_rq0, p_rq1, p_rz0, p_rz1, p_us, p_un, p_uj, ↓reduceIte, h27', v_ng0 hHW', hin', hr', t_b0]
    · obtain ⟨n', hn1', hn3', rfl⟩ := k13'' hr'
      have hl1' : (Int32.ofNat n' < 1) = False := by
        rw [show (1 : Int32) = Int32.ofNat 1 from rfl, p_lt n' 1 (by omega) (by omega)]
        apply eq_false; omega
      have hl3' : (3 < Int32.ofNat n') = False := by
        rw [show (3 : Int32) = Int32.ofNat 3 from rfl, p_lt 3 n' (by omega) (by omega)]
        apply eq_false; omega
      cases hr2' : t_inr l2' 2
      · have key' : ∀ o' : Option (Int32 × q_Mem), (if l2' < 0 then some ((-1000000 : Int32), (I', X')) else if 1 < l2' then some ((-1000000 : Int32), (I', X')) else o') = some (-1000000, (I', X')) := fun o' => by
          rw [t_if20 l2' 1 1 (by decide) rfl, hr2']; simp
        refine ⟨-1000000, I', _, X', ?_, ?_, v_thr h'⟩
        · unfold F_X11_best
          simp (disch := omega) only [↓ce_36 hB', rf_36 hB', ↓nn_38, ↓nn_40, ↓nn_45, ↓nn_50, ↓nn_52, ↓nn_53, ↓nn_54, ↓nn_56, ↓nn_58, ↓nn_64, ↓nn_67, ↓nn_68, ↓nn_84, p_bs, p_rq0, p_rq1, p_rz0, p_rz1, p_us, p_un, p_uj, ↓reduceIte, h18', t_b0, Bool.true_eq_false, hl1', hl3']
          exact key' _
        · unfold F_X12_best
          simp (disch := omega) only [↓ce_87 hB', rf_87 hB', ↓nn_31, ↓nn_33, ↓nn_89, ↓nn_90, ↓nn_91, ↓nn_92, ↓nn_93, ↓nn_94, ↓nn_95, ↓nn_96, ↓nn_97, ↓nn_98, ↓nn_99, ↓nn_100, ↓nn_101, ↓nn_102, ↓nn_103, ↓nn_104, ↓nn_105, ↓nn_106, ↓nn_107, ↓nn_108, p_bs, p_rq0, p_rq1, p_rz0, p_rz1, p_us, p_un, p_uj, ↓reduceIte, h27', v_ng0 hHW', hin', hr', hin2', hr2', t_b0, Bool.true_eq_false]
      · obtain ⟨q', hq', rfl⟩ := t_inrE (by decide) hr2'
        obtain ⟨w1', w2', w3', w4', w5', w6'⟩ := id hR'
        obtain ⟨J1', c1', c2', c3'⟩ := s_copyFrom (I' := I') (k1' := 73) (k2' := 53) hB' (by omega) (by omega)
        have c2'' : ∀ c', c' ≠ 74 → J1' c' = I' c' := c2'
        have c3'' : ∀ j', j' < 31 → J1' 74 j' = I' 54 j' := c3'
        have f2' : ∀ c', c' ≠ 67 → c' ≠ 74 → q_u2 (q_u2 J1' 67 8 0) 67 9 (-1000000) c' = I' c' := fun c' z1' z2' => by rw [p_uc _ _ _ _ _ z1', p_uc _ _ _ _ _ z1']; exact c2'' c' z2'
        have f74' : q_u2 (q_u2 J1' 67 8 0) 67 9 (-1000000) 74 = J1' 74 := by rw [p_uc _ _ _ _ _ (by decide), p_uc _ _ _ _ _ (by decide)]
        have g8' : q_u2 (q_u2 J1' 67 8 0) 67 9 (-1000000) 67 8 = 0 := by rw [p_uj _ _ _ _ _ (by decide), p_us]
        have g9' : q_u2 (q_u2 J1' 67 8 0) 67 9 (-1000000) 67 9 = -1000000 := p_us _ _ _ _
        generalize hJ2' : q_u2 (q_u2 J1' 67 8 0) 67 9 (-1000000) = J2' at f2' f74' g8' g9'
        generalize hs' : J1' 74 = s' at c3'' f74'
        obtain ⟨I1', d1', d2', d3', d4'⟩ := s_tryRows (X' := X') (L' := L') (s' := s') hB' hHW' (t_WFa w1' c3'') (D' := A'.2.2.1) (by rw [c3'' 0 (by decide)]; exact w3') w4' hn3' (n' - 1) 0 0 60 J2' (by omega) (by decide) (by omega) (t_HIk hH'.2.1 (fun c' h1' h2' => f2' c' (by omega) (by omega))) (t_LCk hLC' (fun c' h1' h2' => f2' c' (by omega) (by omega))) (fun j' hj' => by rw [show 74 + 2 * 0 = 74 from rfl, f74']; rfl) rfl
        rw [show n' - 1 + 1 = n' by omega, g8', g9', Nat.zero_mul] at d4'
        have d1'' : R_X2_tryRows 60 0 67 0 (Int32.ofNat n') 0 (J2', X') = some ((), (I1', X')) := d1'
        have f' : ∀ c', c' ≠ 63 → c' ≠ 64 → c' ≠ 65 → c' ≠ p_sc X' → c' ≠ 67 → c' ≠ 74 → (c' ≤ 74 ∨ 83 ≤ c') → I1' c' = I' c' := fun c' z1' z2' z3' z4' z5' z6' z7' => by rw [d2' c' z1' z2' z3' z4' z5' (by omega)]; exact f2' c' z5' z6'
        have fs' : ∀ c', c' ≠ 63 → c' ≠ 64 → c' ≠ 65 → c' ≠ p_sc X' → c' ≠ 67 → c' ≠ 74 → c' ≠ 76 → c' ≠ 78 → c' ≠ 80 → c' ≠ 82 → I1' c' = I' c' := fun c' z1' z2' z3' z4' z5' z6' z7' z8' z9' z10' => by rw [d2' c' z1' z2' z3' z4' z5' (by omega)]; exact f2' c' z5' z6'
        have f1' : ∀ c', 83 ≤ c' → c' < 109 → I1' c' = I' c' := fun c' z1' z2' => f' c' (by omega) (by omega) (by omega) (by omega) (by omega) (by omega) (by omega)
        have hM1' : t_HM A'.1 (q_u2 I1' 87 0 0) := v_hm h' (by rw [p_uc _ _ _ _ _ (by decide), f1' 92 (by decide) (by decide)]) (by rw [p_uc _ _ _ _ _ (by decide), f1' 94 (by decide) (by decide)]) (by rw [p_uc _ _ _ _ _ (by decide), f1' 96 (by decide) (by decide)]) (by rw [p_uj _ _ _ _ _ (by decide), f1' 87 (by decide) (by decide)]) (by rw [p_uj _ _ _ _ _ (by decide), f1' 87 (by decide) (by decide)])
        obtain ⟨J', u', n1', n2', n3'⟩ := s_bestM (I' := q_u2 I1' 87 0 0) (H' := A'.1) (L' := L') (s' := s') hB' (fun c' hc' => by rw [p_uc _ _ _ _ _ (by omega), f' c' (by omega) (by omega) (by omega) (by omega) (by omega) (by omega) (by omega)]; exact hS' c' hc') hM1' hHW' (t_WFa w1' c3'') (by rw [p_uc _ _ _ _ _ (by decide), f1' 100 (by decide) (by decide)]; exact t_RSa w2' c3'' (fun _ _ => rfl)) (t_LMk hLM' (by rw [p_uj _ _ _ _ _ (by decide), f1' 87 (by decide) (by decide)]) (by rw [p_uc _ _ _ _ _ (by decide), f1' 89 (by decide) (by decide)]) (by rw [p_uc _ _ _ _ _ (by decide), f1' 90 (by decide) (by decide)])) (D' := A'.2.2.1) (by rw [c3'' 0 (by decide)]; exact w3') w4' hn1' hn3' (Int32.ofNat q')
        generalize yq_bf (yq_V A'.1 L' s' n') (0, -1000000) 0 (10 ^ n') = B' at d4' n1'
        obtain ⟨b1', b2'⟩ := B'
        simp only [Prod.mk.injEq] at d4' n1'
        obtain ⟨d4', d5'⟩ := d4'
        have hq0' : (Int32.ofNat q' < 0) = False := by
          rw [show (0 : Int32) = Int32.ofNat 0 from rfl, p_lt q' 0 (by omega) (by omega)]
          simp
        have hq1' : (1 < Int32.ofNat q') = False := by
          rw [show (1 : Int32) = Int32.ofNat 1 from rfl, p_lt 1 q' (by omega) (by omega)]
          apply eq_false
          omega
        have hz0' : (Int32.ofNat q' = 0) = (q' = 0) := by
          apply propext
          exact ⟨fun e' => p_inj (show Int32.ofNat q' = Int32.ofNat 0 from e') (by omega) (by omega), fun e' => by rw [e']; rfl⟩
        refine ⟨if q' = 0 then b1' else b2', I1', J', p_T X' u', ?_, ?_, v_ask3 h' fs' (fun c' z1' z2' z3' z4' z5' => by rw [n2' c' z1' z2' z3' z4', p_uc _ _ _ _ _ z1']) (fun j' z1' z2' => by rw [n3' j' z1', p_uj _ _ _ _ _ z2'])⟩
        · unfold F_X11_best F_X2_seekBest
          have l0' : ∀ f' : Nat → Option (Unit × q_Mem), q_lR (I', X') 5 70 0 f' = f' (X'.2.1 70 0) := fun f' => (ce_70 hB').1 I' 0 f' (by decide)
          simp (disch := omega) only [↓ce_36 hB', rf_36 hB', ↓ce_53 hB', rf_53 hB', ↓ce_67 hB', rf_67 hB', ↓nn_38, ↓nn_40, ↓nn_45, ↓nn_50, ↓nn_52, ↓nn_53, ↓nn_54, ↓nn_55, ↓nn_56, ↓nn_58, ↓nn_64, ↓nn_67, ↓nn_68, ↓nn_69, ↓nn_71, ↓nn_72, ↓nn_73, ↓nn_84, p_bs, p_rq0, p_rq1, p_rz0, p_rz1, p_us, p_un, p_uj, ↓reduceIte, h18', t_b0, Bool.true_eq_false, hl1', hl3', hq0', hq1', l0']
          simp (disch := omega) only [↓ce_70 hB', rf_70 hB', ↓ce_73 hB', rf_73 hB', ↓ce_67 hB', rf_67 hB', ↓nn_40, ↓nn_64, ↓nn_67, ↓nn_69, ↓nn_71, ↓nn_72, ↓nn_73, ↓nn_74, ↓nn_75, ↓nn_76, ↓nn_78, ↓nn_80, ↓nn_82, p_bs, p_rq0, p_rq1, p_rz0, p_rz1, p_us, p_un, p_uj, ↓reduceIte, c1', hJ2', d1'']
          by_cases e' : q' = 0
          · subst e'
            simp (disch := omega) only [↓ce_36 hB', rf_36 hB', ↓ce_67 hB', rf_67 hB', ↓nn_38, ↓nn_40, ↓nn_45, ↓nn_50, ↓nn_52, ↓nn_53, ↓nn_54, ↓nn_56, ↓nn_58, ↓nn_64, ↓nn_67, ↓nn_68, ↓nn_69, ↓nn_71, ↓nn_72, ↓nn_73, ↓nn_84, p_bs, p_rq0, p_rq1, p_rz0, p_rz1, p_us, p_un, p_uj, ↓reduceIte, hz0', d4']
          · simp (disch := omega) only [↓ce_36 hB', rf_36 hB', ↓ce_67 hB', rf_67 hB', ↓nn_38, ↓nn_40, ↓nn_45, ↓nn_50, ↓nn_52, ↓nn_53, ↓nn_54, ↓nn_56, ↓nn_58, ↓nn_64, ↓nn_67, ↓nn_68, ↓nn_69, ↓nn_71, ↓nn_72, ↓nn_73, ↓nn_84, p_bs, p_rq0, p_rq1, p_rz0, p_rz1, p_us, p_un, p_uj, ↓reduceIte, hz0', e', d5']
        · have n1'' : ∀ W' : Int32, W' = Int32.ofNat (10 ^ n') → J_X12_best_66 87 (Int32.ofNat n') (Int32.ofNat q') (-1) 0 W' (q_u2 I1' 87 0 0, X') = some (if q' = 0 then b1' else b2', (J', p_T X' u')) := fun W' e' => by
            subst e'
            unfold J_X12_best_66
            rw [n1']
            by_cases e' : q' = 0
            · subst e'; rfl
            · simp only [Option.bind_some, hz0', e', ↓reduceIte]
          unfold F_X12_best
          simp (disch := omega) only [↓ce_87 hB', rf_87 hB', ↓nn_31, ↓nn_33, ↓nn_89, ↓nn_90, ↓nn_91, ↓nn_92, ↓nn_93, ↓nn_94, ↓nn_95, ↓nn_96, ↓nn_97, ↓nn_98, ↓nn_99, ↓nn_100, ↓nn_101, ↓nn_102, ↓nn_103, ↓nn_104, ↓nn_105, ↓nn_106, ↓nn_107, ↓nn_108, p_bs, p_rq0, p_rq1, p_rz0, p_rz1, p_us, p_un, p_uj, ↓reduceIte, hM1'.2.2.2.2, v_ng0 hHW', hin', hr', hin2', hr2', t_b0, Bool.true_eq_false]
          have ho' : n' = 1 ∨ n' = 2 ∨ n' = 3 := by omega
          rcases ho' with rfl | rfl | rfl
          · rw [if_pos (by decide)]; exact n1'' _ rfl
          · rw [if_neg (by decide), if_pos (by decide)]; exact n1'' _ rfl
          · rw [if_neg (by decide), if_neg (by decide)]; exact n1'' _ rfl
  · rw [hz'] at h18'
    refine ⟨-1000000, I', _, X', ?_, ?_, v_thr h'⟩
    · unfold F_X11_best
      simp (disch := omega) only [↓ce_36 hB', rf_36 hB', ↓nn_38, ↓nn_40, ↓nn_45, ↓nn_50, ↓nn_52, ↓nn_53, ↓nn_54, ↓nn_56, ↓nn_58, ↓nn_64, ↓nn_67, ↓nn_68, ↓nn_84, p_bs, p_rq0, p_rq1, p_rz0, p_rz1, p_us, p_un, p_uj, ↓reduceIte, h18', t_b0]
    · have := (v_thr h').2.2.2.1.2.2.1.2.2.2.2
      rw [(v_zf h' hz').2] at this
      unfold F_X12_best
      simp (disch := omega) only [↓ce_87 hB', rf_87 hB', ↓nn_31, ↓nn_33, ↓nn_89, ↓nn_90, ↓nn_91, ↓nn_92, ↓nn_93, ↓nn_94, ↓nn_95, ↓nn_96, ↓nn_97, ↓nn_98, ↓nn_99, ↓nn_100, ↓nn_101, ↓nn_102, ↓nn_103, ↓nn_104, ↓nn_105, ↓nn_106, ↓nn_107, ↓nn_108, p_bs, p_rq0, p_rq1, p_rz0, p_rz1, p_us, p_un, p_uj, ↓reduceIte, this, show Int32.ofNat 0 = 0 from rfl]
end PB'
