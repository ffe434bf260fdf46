/-! the reference's day, the whole -/
theorem t_RSk {s' w' w'' : Nat → Int32} (h' : t_RS s' w') (hk' : ∀ j', j' < 36 → w'' j' = w' j') : t_RS s' w'' := by
  obtain ⟨⟨r1', r2', r3', r4'⟩, r5', r6'⟩ := h'
  refine ⟨⟨fun g' hg' => ?_, ?_, ?_, ?_⟩, fun j' hj' => ?_, ?_⟩
  · rw [hk' _ (by omega), hk' _ (by omega), hk' _ (by omega), hk' _ (by omega)]; exact r1' g' hg'
  · rw [hk' _ (by omega)]; exact r2'
  · rw [hk' _ (by omega)]; exact r3'
  · rw [hk' _ (by omega)]; exact r4'
  · rw [hk' _ (by omega), hk' _ (by omega)]; exact r5' j' hj'
  · rw [hk' _ (by omega)]; exact r6'
section PM'
variable {X' : p_X} {I' : p_I} {H' : t_H} {L' : t_L} {c' : Nat} {s' r' : Nat → Int32}
theorem s_mloop (hB' : p_B X') (hS0' : p_S I') (hM' : t_HM H' I') (hW' : t_HW H') (hS' : t_WF H' s') (hc' : t_RK c') (hL' : t_LM L' X' I') (hR' : t_RS r' (I' c')) (hp' : ∃ p' : Nat → Bool, r' 4 = t_B p' ∧ ∀ g', t_ng H' ≤ g' → p' g' = false) (hT' : t_TM H' s' I') (h00' : r' 0 = s' 0) :
    ∃ I'' u', q_lp (fun z' => B_X12_goDay_45 87 c' (t_B (t_tp H' s')) z'.1 z'.2) q_fu ((0 : Int32), (I', X')) = some (I'', p_T X' u') ∧ (∀ x', x' ≠ 87 → x' ≠ 91 → x' ≠ c' → I'' x' = I' x') ∧ (∀ j', ¬ (8 ≤ j' ∧ j' ≤ 14) → j' ≠ 17 → I'' 87 j' = I' 87 j') ∧ t_RS (t_gl H' L' s' r' (t_ng H')) (I'' c') ∧ (∀ j', 36 ≤ j' → I'' c' j' = I' c' j') := by
  have hng' : t_ng H' ≤ 6 := hW'.2.2.2.1
  have hnd' : t_nd H' ≤ 5 := hW'.2.1
  have hcn' : c' ≠ 87 ∧ c' ≠ 91 ∧ c' ≠ 92 ∧ c' ≠ 94 ∧ c' ≠ 96 ∧ c' ≠ 102 ∧ c' ≠ 89 ∧ c' ≠ 90 := by omega
  obtain ⟨wn', hwn', hw20'⟩ := t_wmN hW' hS'
  have hds' := t_dsN hnd' hW'.1 hS'
  obtain ⟨e', h1', J', u', rfl, h2'⟩ := p_lp (fun z' => B_X12_goDay_45 87 c' (t_B (t_tp H' s')) z'.1 z'.2) (fun i' z' => ∃ J' u', z' = (Int32.ofNat i', (J', p_T X' u')) ∧ (∀ x', x' ≠ 87 → x' ≠ 91 → x' ≠ c' → J' x' = I' x') ∧ (∀ j', ¬ (8 ≤ j' ∧ j' ≤ 14) → j' ≠ 17 → J' 87 j' = I' 87 j') ∧ t_RS (t_gl H' L' s' r' i') (J' c') ∧ (∀ j', 36 ≤ j' → J' c' j' = I' c' j'))
    (fun e' => ∃ J' u', e' = (J', p_T X' u') ∧ (∀ x', x' ≠ 87 → x' ≠ 91 → x' ≠ c' → J' x' = I' x') ∧ (∀ j', ¬ (8 ≤ j' ∧ j' ≤ 14) → j' ≠ 17 → J' 87 j' = I' 87 j') ∧ t_RS (t_gl H' L' s' r' (t_ng H')) (J' c') ∧ (∀ j', 36 ≤ j' → J' c' j' = I' c' j')) (t_ng H') (by
      rintro i' z' hi' ⟨J', u', rfl, j1', j2', j3', j4'⟩
      have hB' := p_BT hB' u'
      have hM'' : t_HM H' J' := t_HMk hM' (j1' _ (by decide) (by decide) hcn'.2.2.1.symm) (j1' _ (by decide) (by decide) hcn'.2.2.2.1.symm) (j1' _ (by decide) (by decide) hcn'.2.2.2.2.1.symm) (j2' 26 (by omega) (by omega)) (j2' 27 (by omega) (by omega))
      have hSJ' : p_S J' := fun k' hk' => by rw [j1' k' (by omega) (by omega) (by omega)]; exact hS0' k' hk'
      have hL'' : t_LM L' (p_T X' u') J' := t_LMT (t_LMk hL' (j2' 34 (by omega) (by omega)) (j1' _ (by decide) (by decide) (by omega)) (j1' _ (by decide) (by decide) (by omega))) u'
      unfold B_X12_goDay_45
      by_cases hlt' : i' < t_ng H'
      · left
        have hh' := s_hasB (t_tp H' s') i' (by omega) (J', p_T X' u')
        have h37' : J' 87 37 = t_ds H' s' := by rw [j2' 37 (by omega) (by omega)]; exact hT'.1
        have h38' : J' 87 38 = t_wm H' s' := by rw [j2' 38 (by omega) (by omega)]; exact hT'.2.1
        have h102 : J' 102 i' = t_pl H' s' i' := by rw [j1' 102 (by decide) (by decide) hcn'.2.2.2.2.2.1.symm]; exact hT'.2.2.2.2 i' (by omega)
        have hp4' : ∃ p', t_gl H' L' s' r' i' 4 = t_B p' := by
          obtain ⟨p', hp', -⟩ := t_gl4 H' L' s' r' hng' hp' i' (by omega)
          exact ⟨p', hp'⟩
        have w1' : J' c' (4 * i' + 1) = t_gl H' L' s' r' i' (19 + i') := (j3'.1.1 i' (by omega)).2.1
        simp (disch := omega) only [↓ce_87 hB', rf_87 hB', ↓nn_31, ↓nn_33, ↓nn_89, ↓nn_90, ↓nn_91, ↓nn_92, ↓nn_93, ↓nn_94, ↓nn_95, ↓nn_96, ↓nn_97, ↓nn_98, ↓nn_99, ↓nn_100, ↓nn_101, ↓nn_102, ↓nn_103, ↓nn_104, ↓nn_105, ↓nn_106, ↓nn_107, ↓nn_108, p_bs, p_rq0, p_rq1, p_rz0, p_rz1, p_us, p_un, p_uj, ↓reduceIte, hM''.2.2.2.2, p_lt, hlt', hh', t_b0, h37']
        cases ht' : t_tp H' s' i'
        · simp only [↓reduceIte]
          unfold J_X12_goDay_198_45
          refine ⟨_, by simp (disch := omega) only [p_bs, p_rq0, p_rq1, p_rz0, p_rz1, p_us, p_un, p_uj, ↓reduceIte, p_ar], True.intro, J', u', rfl, j1', j2', ?_, j4'⟩
          rw [t_gl, if_neg (by rw [ht']; exact Bool.false_ne_true)]
          exact j3'
        · simp only [Bool.true_eq_false, ↓reduceIte]
          have hgl' : t_gl H' L' s' r' (i' + 1) = t_gd H' L' s' (t_gl H' L' s' r' i') i' := by rw [t_gl, if_pos ht']
          have key' : ∀ l', l' = (!decide (t_ds H' s' = -1) && decide (t_hd H' ((t_ds H' s').toNatClampNeg * 3 + 2) = t_gl H' L' s' r' i' (19 + i'))) → ∃ t', J_X12_goDay_95_45 87 c' (t_B (t_tp H' s')) (Int32.ofNat i') (t_b l') (J', p_T X' u') = some (.inl t') ∧ True ∧ ∃ J' u', t' = (Int32.ofNat (i' + 1), (J', p_T X' u')) ∧ (∀ x', x' ≠ 87 → x' ≠ 91 → x' ≠ c' → J' x' = I' x') ∧ (∀ j', ¬ (8 ≤ j' ∧ j' ≤ 14) → j' ≠ 17 → J' 87 j' = I' 87 j') ∧ t_RS (t_gl H' L' s' r' (i' + 1)) (J' c') ∧ (∀ j', 36 ≤ j' → J' c' j' = I' c' j') := by
            intro l' hl'
            obtain ⟨J2', u2', a1', a2', a3', a4', a5'⟩ := s_mglad hB' hSJ' hM'' hW' hc' hL'' j3' hp4' i' hlt' hwn' hw20' h38' h102 (fun l' => by rw [t_glF _ _ _ _ _ _ (by omega) (by omega) (by omega), h00']; exact t_hbG hW' hS' i' hlt' l') (t_B (t_tp H' s')) l' hl'
            rw [p_TT] at a1'
            refine ⟨_, a1', True.intro, J2', u2', rfl, ?_, ?_, ?_, ?_⟩
            · intro x' x1' x2' x3'; rw [a2' x' x1' x2' x3', j1' x' x1' x2' x3']
            · intro j' x1' x2'; rw [a3' j' x1' x2', j2' j' x1' x2']
            · rw [hgl']; exact a4'
            · intro j' hj'; rw [a5' j' hj', j4' j' hj']
          have hlt'' : (i' < t_ng H') = True := eq_true hlt'
          rcases hds' with hd' | ⟨d', hd', hd''⟩
          · unfold J_X12_goDay_94_45
            simp only [hd', ↓reduceIte]
            have := key' false (by simp [hd'])
            exact this
          · have hK' := s_kindOf hB' hM'' hW' d' hd''
            unfold J_X12_goDay_94_45
            simp (disch := omega) only [↓ce_87 hB', rf_87 hB', ↓nn_31, ↓nn_33, ↓nn_89, ↓nn_90, ↓nn_91, ↓nn_92, ↓nn_93, ↓nn_94, ↓nn_95, ↓nn_96, ↓nn_97, ↓nn_98, ↓nn_99, ↓nn_100, ↓nn_101, ↓nn_102, ↓nn_103, ↓nn_104, ↓nn_105, ↓nn_106, ↓nn_107, ↓nn_108, p_bs, p_rq0, p_rq1, p_rz0, p_rz1, p_us, p_un, p_uj, ↓reduceIte, p_mr hc' hB', hd', p_ofN1, hK', p_ar, w1']
            by_cases hx' : t_hd H' (d' * 3 + 2) = t_gl H' L' s' r' i' (19 + i')
            · simp only [hx', ↓reduceIte]
              exact key' true (by simp [hd', p_ofN1 d' (by omega), p_nat d' (by omega), hx'])
            · simp only [hx', ↓reduceIte]
              exact key' false (by simp [hd', p_ofN1 d' (by omega), p_nat d' (by omega), hx'])
      · right
        have hi'' : i' = t_ng H' := by omega
        subst hi''
        refine ⟨_, ?_, J', u', rfl, j1', j2', j3', j4'⟩
        simp (disch := omega) only [↓ce_87 hB', rf_87 hB', ↓nn_31, ↓nn_33, ↓nn_89, ↓nn_90, ↓nn_91, ↓nn_92, ↓nn_93, ↓nn_94, ↓nn_95, ↓nn_96, ↓nn_97, ↓nn_98, ↓nn_99, ↓nn_100, ↓nn_101, ↓nn_102, ↓nn_103, ↓nn_104, ↓nn_105, ↓nn_106, ↓nn_107, ↓nn_108, p_bs, p_rq0, p_rq1, p_rz0, p_rz1, p_us, p_un, p_uj, ↓reduceIte, hM''.2.2.2.2, p_lt, Nat.lt_irrefl]) (t_ng H') 0 q_fu (0, (I', X')) (by omega) (by unfold q_fu; omega) ⟨I', X'.2.1 87 5, by rw [p_Ts]; rfl, fun _ _ _ _ => rfl, fun _ _ _ => rfl, hR', fun _ _ => rfl⟩
  exact ⟨J', u', h1', h2'⟩
theorem t_RS1 (hR' : t_RS s' r') {D' : Nat} (hD' : s' 0 = Int32.ofNat D') (hD'' : D' ≤ 2000) {d' : Nat} (hd' : t_ck H' s' = Int32.ofNat d') (hd'' : d' < 5) : t_RS (t_p1 H' s') (va_up (t_w1 H' s' r' D') 33 (q_mx 0 (s' 2 - t_hd H' (3 * d' + 1) * t_bc (t_B (t_tp H' s'))))) := by
  obtain ⟨⟨r1', r2', r3', r4'⟩, r5', r6'⟩ := hR'
  have hsl' := t_slN hD' hD''
  unfold t_sl at hsl'
  have hp1' : t_p1 H' s' = va_up (va_up (va_up s' (5 + D' % 4) (t_ck H' s')) (9 + D' % 4) (t_pn H' s')) 2 (q_mx 0 (s' 2 - t_pn H' s' * t_hd H' (d' * 3 + 1))) := by
    unfold t_p1
    rw [hsl', hd', p_nat d' (by omega)]
  have hm' : D' % 4 < 4 := Nat.mod_lt _ (by omega)
  rw [hp1']
  unfold t_w1
  clear hp1' hsl'
  generalize D' % 4 = q' at *
  refine ⟨⟨fun g' hg' => ?_, ?_, ?_, ?_⟩, fun j' hj' => ?_, ?_⟩
  · simp (disch := omega) only [p_vn]; exact r1' g' hg'
  · simp (disch := omega) only [p_vn]; exact r2'
  · simp (disch := omega) only [p_vn]; exact r3'
  · simp (disch := omega) only [p_vn]; exact r4'
  · by_cases e' : j' = q'
    · subst e'
      simp (disch := omega) only [p_vn, p_vs]
      exact ⟨trivial, rfl⟩
    · simp (disch := omega) only [p_vn]; exact r5' j' hj'
  · rw [p_vs, p_vs, Int32.mul_comm, Nat.mul_comm]
    rfl
theorem t_RS2 (hR' : t_RS s' r') : t_RS (va_up (va_up s' 3 (-1)) 0 (s' 0 + 1)) (va_up (va_up r' 34 0) 35 (r' 35 + 1)) := by
  obtain ⟨⟨r1', r2', r3', r4'⟩, r5', r6'⟩ := hR'
  refine ⟨⟨fun g' hg' => ?_, ?_, ?_, ?_⟩, fun j' hj' => ?_, ?_⟩
  · simp (disch := omega) only [p_vn]; exact r1' g' hg'
  · simp (disch := omega) only [p_vn]; exact r2'
  · simp (disch := omega) only [p_vn, p_vs]; decide
  · simp (disch := omega) only [p_vs]; rw [r4']
  · simp (disch := omega) only [p_vn]; exact r5' j' hj'
  · simp (disch := omega) only [p_vn]; exact r6'
theorem s_goDay (hB' : p_B X') (hS0' : p_S I') (hM' : t_HM H' I') (hW' : t_HW H') (hS' : t_WF H' s') (hc' : t_RK c') (hR' : t_RS s' (I' c')) (hL' : t_LM L' X' I') {D' : Nat} (hD' : s' 0 = Int32.ofNat D') (hD'' : D' < 2000) {n' : Nat} (hn' : n' ≤ 60) (h36' : I' c' 36 = Int32.ofNat n') :
    ∃ I'' u', F_X12_goDay 87 c' (I', X') = some (t_B (t_fd H' s'), (I'', p_T X' u')) ∧ (∀ x', x' ≠ 87 → x' ≠ 91 → x' ≠ 102 → x' ≠ c' → I'' x' = I' x') ∧ (∀ j', ¬ (8 ≤ j' ∧ j' ≤ 14) → j' ≠ 17 → ¬ (37 ≤ j' ∧ j' ≤ 40) → I'' 87 j' = I' 87 j') ∧ t_RS (t_ps H' L' s') (I'' c') ∧ t_LU (I' c') (I'' c') (t_e3 (t_ds H' s') (t_B (t_fd H' s')) (t_sm (t_ps H' L' s') 6)) := by
  have hng' : t_ng H' ≤ 6 := hW'.2.2.2.1
  have hnd' : t_nd H' ≤ 5 := hW'.2.1
  have hcn' : c' ≠ 87 ∧ c' ≠ 91 ∧ c' ≠ 92 ∧ c' ≠ 94 ∧ c' ≠ 96 ∧ c' ≠ 102 ∧ c' ≠ 89 ∧ c' ≠ 90 := by omega
  obtain ⟨d', hd', hd''⟩ := t_ckN hnd' hW'.1 hS'
  have hps' := t_psW (L' := L') hW' hS' hD' hD''
  have hth' := s_thereBits hB' hM' hW' hS' hc' hR'.1
  obtain ⟨I1', a1', a2', a3', a4', a5'⟩ := s_goTable hB' hM' hW' hS' hc' hR' hD' (by omega)
  have hM1' : t_HM H' I1' := t_HMk hM' (a2' _ (by decide) (by decide) hcn'.2.2.1.symm) (a2' _ (by decide) (by decide) hcn'.2.2.2.1.symm) (a2' _ (by decide) (by decide) hcn'.2.2.2.2.1.symm) (a3' 26 (by omega) (by omega) (by omega) (by omega)) (a3' 27 (by omega) (by omega) (by omega) (by omega))
  have hR1' : t_RG s' (I1' c') := by rw [a5']; exact t_RGw hR'.1
  have hck' := s_cooks hB' hM1' hW' hS' hc' hR1'
  have h33' : I1' c' 33 = s' 2 := by
    rw [a5']
    unfold t_w1
    simp (disch := omega) only [p_vn]
    exact hR'.2.2
  have h94' : I1' 94 (3 * d' + 1) = t_hd H' (3 * d' + 1) := hM1'.2.1 _ (by omega)
  unfold F_X12_goDay
  simp (disch := omega) only [↓ce_87 hB', rf_87 hB', ↓nn_31, ↓nn_33, ↓nn_89, ↓nn_90, ↓nn_91, ↓nn_92, ↓nn_93, ↓nn_94, ↓nn_95, ↓nn_96, ↓nn_97, ↓nn_98, ↓nn_99, ↓nn_100, ↓nn_101, ↓nn_102, ↓nn_103, ↓nn_104, ↓nn_105, ↓nn_106, ↓nn_107, ↓nn_108, p_bs, p_rq0, p_rq1, p_rz0, p_rz1, p_us, p_un, p_uj, ↓reduceIte, hth', a1', hck']
  rw [hd']
  simp (disch := omega) only [↓ce_87 hB', rf_87 hB', ↓ce_94 hB', ↓nn_31, ↓nn_33, ↓nn_89, ↓nn_90, ↓nn_91, ↓nn_92, ↓nn_93, ↓nn_94, ↓nn_95, ↓nn_96, ↓nn_97, ↓nn_98, ↓nn_99, ↓nn_100, ↓nn_101, ↓nn_102, ↓nn_103, ↓nn_104, ↓nn_105, ↓nn_106, ↓nn_107, ↓nn_108, p_bs, p_rq0, p_rq1, p_rz0, p_rz1, p_us, p_un, p_uj, ↓reduceIte, p_mr hc' hB', h33', p_ar, h94', t_bcE]
  generalize hI2' : q_u2 I1' c' 33 (q_mx 0 (s' 2 - t_hd H' (3 * d' + 1) * t_bc (t_B (t_tp H' s')))) = I2'
  have f2' : t_RS (t_p1 H' s') (I2' c') := by
    rw [← hI2', p_ur, a5']
    exact t_RS1 hR' hD' (by omega) hd' (by omega)
  have g2' : ∀ x', x' ≠ c' → I2' x' = I1' x' := fun x' hx' => by rw [← hI2', p_uc _ _ _ _ _ hx']
  have k2' : ∀ j', 36 ≤ j' → I2' c' j' = I' c' j' := fun j' hj' => by
    rw [← hI2', p_uj _ _ _ _ _ (by omega), a5']
    unfold t_w1
    simp (disch := omega) only [p_vn]
  have hM2' : t_HM H' I2' := t_HMk hM1' (g2' _ (by omega)) (g2' _ (by omega)) (g2' _ (by omega)) (by rw [g2' 87 (by omega)]) (by rw [g2' 87 (by omega)])
  have hL2' : t_LM L' X' I2' := t_LMk hL' (by rw [g2' 87 (by omega), a3' 34 (by omega) (by omega) (by omega) (by omega)]) (by rw [g2' 89 (by omega), a2' 89 (by omega) (by omega) (by omega)]) (by rw [g2' 90 (by omega), a2' 90 (by omega) (by omega) (by omega)])
  have hT2' : t_TM H' s' I2' := by
    unfold t_TM
    rw [g2' 87 (by omega), g2' 102 (by omega)]
    exact a4'
  have hp1' : ∃ p' : Nat → Bool, t_p1 H' s' 4 = t_B p' ∧ ∀ g', t_ng H' ≤ g' → p' g' = false := by
    have : t_p1 H' s' 4 = s' 4 := by
      unfold t_p1
      simp (disch := omega) only [p_vn]
    rw [this]
    exact hS'.2.2.2.2.2.2.1
  obtain ⟨I3', u', b1', b2', b3', b4', b5'⟩ := s_mloop hB' (fun k' hk' => by rw [g2' k' (by omega), a2' k' (by omega) (by omega) (by omega)]; exact hS0' k' hk') hM2' hW' hS' hc' hL2' f2' hp1' hT2' (by unfold t_p1; simp (disch := omega) only [p_vn])
  have hB' := p_BT hB' u'
  rw [b1']
  have e36' : I3' c' 36 = Int32.ofNat n' := by rw [b5' 36 (by omega), k2' 36 (by omega)]; exact h36'
  simp (disch := omega) only [p_bs, p_rq0, p_rq1, p_rz0, p_rz1, p_us, p_un, p_uj, ↓reduceIte, p_mr hc' hB', e36', p_cm]
  generalize hI5' : q_u2 (q_u2 I3' c' 34 0) c' 35 (I3' c' 35 + 1) = I5'
  have f5' : t_RS (t_ps H' L' s') (I5' c') := by
    rw [← hI5', p_ur, p_ur]
    have := t_RS2 b4'
    unfold t_ps
    exact this
  have g5' : ∀ x', x' ≠ c' → I5' x' = I3' x' := fun x' hx' => by rw [← hI5', p_uc _ _ _ _ _ hx', p_uc _ _ _ _ _ hx']
  have k5' : ∀ j', 36 ≤ j' → I5' c' j' = I' c' j' := fun j' hj' => by
    rw [← hI5', p_uj _ _ _ _ _ (by omega), p_uj _ _ _ _ _ (by omega), b5' j' hj', k2' j' hj']
  have hM5' : t_HM H' I5' := t_HMk hM2' (by rw [g5' 92 (by omega), b2' 92 (by omega) (by omega) (by omega)]) (by rw [g5' 94 (by omega), b2' 94 (by omega) (by omega) (by omega)]) (by rw [g5' 96 (by omega), b2' 96 (by omega) (by omega) (by omega)]) (by rw [g5' 87 (by omega), b3' 26 (by omega) (by omega)]) (by rw [g5' 87 (by omega), b3' 27 (by omega) (by omega)])
  have h102 : ∀ g', g' < 6 → I5' 102 g' = t_pl H' s' g' := by rw [g5' 102 (by omega), b2' 102 (by omega) (by omega) (by omega)]; exact hT2'.2.2.2.2
  have h37' : I5' 87 37 = t_ds H' s' := by rw [g5' 87 (by omega), b3' 37 (by omega) (by omega)]; exact hT2'.1
  have hfr' : ∀ x', x' ≠ 87 → x' ≠ 91 → x' ≠ 102 → x' ≠ c' → I5' x' = I' x' := fun x' x1' x2' x3' x4' => by rw [g5' x' x4', b2' x' x1' x2' x4', g2' x' x4', a2' x' x1' x3' x4']
  have hf87' : ∀ j', ¬ (8 ≤ j' ∧ j' ≤ 14) → j' ≠ 17 → ¬ (37 ≤ j' ∧ j' ≤ 40) → I5' 87 j' = I' 87 j' := fun j' x1' x2' x3' => by rw [g5' 87 (by omega), b3' j' x1' x2', g2' 87 (by omega), a3' j' (by omega) (by omega) (by omega) (by omega)]
  by_cases hn60' : n' = 60
  · simp only [hn60', ↓reduceIte]
    obtain ⟨I6', c1', c2', c3', c4'⟩ := s_shift (I' := I5') hB' hc'
    rw [c1']
    have e366 : I6' c' 36 = Int32.ofNat 60 := by rw [c3' 36 (by omega), k5' 36 (by omega), h36', hn60']
    simp (disch := omega) only [p_bs, p_rq0, p_rq1, p_rz0, p_rz1, p_us, p_un, p_uj, ↓reduceIte, p_mr hc' hB', e366, show Int32.ofNat 60 - 1 = Int32.ofNat 59 from rfl]
    obtain ⟨I7', d1', d2', d3', d4', d5', d6'⟩ := s_logW (I' := q_u2 I6' c' 36 (Int32.ofNat 59)) (s' := s') (r' := t_ps H' L' s') (n' := 59) hB' (t_HMk hM5' (by rw [p_uc _ _ _ _ _ (by omega), c2' _ (by omega)]) (by rw [p_uc _ _ _ _ _ (by omega), c2' _ (by omega)]) (by rw [p_uc _ _ _ _ _ (by omega), c2' _ (by omega)]) (by rw [p_uc _ _ _ _ _ (by omega), c2' _ (by omega)]) (by rw [p_uc _ _ _ _ _ (by omega), c2' _ (by omega)])) hW' hc' (by rw [p_uc _ _ _ _ _ (by omega), c2' _ (by omega)]; exact h102) (by rw [p_uc _ _ _ _ _ (by omega), c2' _ (by omega)]; exact h37') (fun g' hg' => by rw [p_uj _ _ _ _ _ (by omega), c3' _ (by omega)]; exact (f5'.1.1 g' hg').2.2.1) (by omega) (by rw [p_us])
    refine ⟨I7', u', d1', ?_, ?_, ?_, ?_⟩
    · intro x' x1' x2' x3' x4'; rw [d2' x' x4', p_uc _ _ _ _ _ x4', c2' x' x4', hfr' x' x1' x2' x3' x4']
    · intro j' x1' x2' x3'; rw [d2' 87 (by omega), p_uc _ _ _ _ _ (by omega), c2' 87 (by omega), hf87' j' x1' x2' x3']
    · exact t_RSk f5' (fun j' hj' => by rw [d3' j' hj', p_uj _ _ _ _ _ (by omega), c3' j' (by omega)])
    · refine ⟨60, by omega, by rw [h36', hn60'], .inr ⟨rfl, d5', ?_, ?_⟩⟩
      · intro j' hj'; rw [d4' j' (by omega), p_uj _ _ _ _ _ (by omega), c4' j' hj', k5' _ (by omega)]
      · intro k' hk'
        have := d6' k' hk'
        rw [t_sm6 hng' hps'.1] at this
        exact this
  · simp only [hn60', ↓reduceIte]
    obtain ⟨I7', d1', d2', d3', d4', d5', d6'⟩ := s_logW (I' := I5') (s' := s') (r' := t_ps H' L' s') (n' := n') hB' hM5' hW' hc' h102 h37' (fun g' hg' => (f5'.1.1 g' hg').2.2.1) (by omega) (by rw [k5' 36 (by omega)]; exact h36')
    refine ⟨I7', u', d1', ?_, ?_, ?_, ?_⟩
    · intro x' x1' x2' x3' x4'; rw [d2' x' x4', hfr' x' x1' x2' x3' x4']
    · intro j' x1' x2' x3'; rw [d2' 87 (by omega), hf87' j' x1' x2' x3']
    · exact t_RSk f5' (fun j' hj' => d3' j' hj')
    · refine ⟨n', hn', h36', .inl ⟨by omega, d5', ?_, ?_⟩⟩
      · intro j' hj'; rw [d4' j' hj', k5' _ (by omega)]
      · intro k' hk'
        have := d6' k' hk'
        rw [t_sm6 hng' hps'.1] at this
        exact this
end PM'
