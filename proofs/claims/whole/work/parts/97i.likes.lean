/-! likes: the reference's side -/
section PL'
variable {X' : p_X} {I' : p_I} {H' : t_H} {L' : t_L} {e' : Nat → Int32}
theorem s_liked15 (hB' : p_B X') (hS0' : p_S I') (hM' : t_HM H' I') (hW' : t_HW H') (hL' : t_LM L' X' I') {k' : Nat} (hk' : k' ≤ 10) (h45' : I' 87 45 = Int32.ofNat k') (he' : ∀ j', j' < 5 * k' → I' 104 j' = e' j') (hE' : t_CE H' e' k') {g' : Nat} (hg' : g' < t_ng H') (l2' kk' : Int32) : ∃ J' u', q_lp (fun z' => B_X12_liked_15 87 (Int32.ofNat g') l2' kk' z'.1 z'.2.1 z'.2.2) q_fu ((1 : Int32), (0 : Int32), (I', X')) = some (t_b (t_al (t_en H' L' e' g' kk') k'), (J', p_T X' u')) ∧ (∀ c', c' ≠ 87 → c' ≠ 91 → J' c' = I' c') ∧ (∀ j', ¬ t_m87 j' → J' 87 j' = I' 87 j') := by
  have hng' := hW'.2.2.2.1
  have hnd' := hW'.2.1
  obtain ⟨z', h1', J', u', rfl, j1', j2'⟩ := p_lp (fun z' => B_X12_liked_15 87 (Int32.ofNat g') l2' kk' z'.1 z'.2.1 z'.2.2) (fun i' z' => ∃ J' u', z' = (t_b (t_al (t_en H' L' e' g' kk') i'), Int32.ofNat i', (J', p_T X' u')) ∧ (∀ c', c' ≠ 87 → c' ≠ 91 → J' c' = I' c') ∧ (∀ j', ¬ t_m87 j' → J' 87 j' = I' 87 j'))
    (fun z' => ∃ J' u', z' = (t_b (t_al (t_en H' L' e' g' kk') k'), (J', p_T X' u')) ∧ (∀ c', c' ≠ 87 → c' ≠ 91 → J' c' = I' c') ∧ (∀ j', ¬ t_m87 j' → J' 87 j' = I' 87 j')) k' (by
      rintro i' z' hi' ⟨J', u', rfl, j1', j2'⟩
      have hB0' := hB'
      have hB' := p_BT hB0' u'
      have l45' : J' 87 45 = Int32.ofNat k' := by rw [j2' 45 (by omega)]; exact h45'
      have hlk' : (Int32.ofNat i' < Int32.ofNat k') = (i' < k') := p_lt i' k' (by omega) (by omega)
      unfold B_X12_liked_15 J_X12_liked_101_15 J_X12_liked_109_15 J_X12_liked_111_15
      by_cases hlt' : i' < k'
      · cases ha' : t_al (t_en H' L' e' g' kk') i'
        · right
          have hf' : t_al (t_en H' L' e' g' kk') k' = false := by
            have : ∀ m', i' ≤ m' → t_al (t_en H' L' e' g' kk') m' = false := by
              intro m'
              induction m' with
              | zero => intro h'; have : i' = 0 := by omega
                        subst this; exact ha'
              | succ m' ih' =>
                intro h'
                by_cases em' : i' = m' + 1
                · subst em'; exact ha'
                · rw [t_al, ih' (by omega)]; rfl
            exact this k' (by omega)
          refine ⟨(t_b false, (J', p_T X' u')), ?_, J', u', by rw [hf'], j1', j2'⟩
          simp (disch := omega) only [↓ce_87 hB', rf_87 hB', ↓nn_31, ↓nn_33, ↓nn_89, ↓nn_90, ↓nn_91, ↓nn_92, ↓nn_93, ↓nn_94, ↓nn_95, ↓nn_96, ↓nn_97, ↓nn_98, ↓nn_99, ↓nn_100, ↓nn_101, ↓nn_102, ↓nn_103, ↓nn_104, ↓nn_105, ↓nn_106, ↓nn_107, ↓nn_108, p_bs, p_rq0, p_rq1, p_rz0, p_rz1, p_us, p_un, p_uj, ↓reduceIte, l45', hlk', hlt', t_b0]
        · left
          have e104 : ∀ c', c' < 5 → J' 104 (5 * i' + c') = e' (5 * i' + c') := fun c' hc' => by rw [j1' 104 (by decide) (by decide)]; exact he' _ (by omega)
          have e0' : J' 104 (5 * i') = e' (5 * i') := e104 0 (by omega)
          obtain ⟨g'', d', w', had', y1', y2', y3', y4', y5', y6', y7'⟩ := hE' i' hlt'
          by_cases hgg' : g'' = g'
          · subst hgg'
            obtain ⟨K', u'', k1', k2', k3'⟩ := s_hasJoyM (I' := J') (L' := L') hB' (fun c' hc' => by rw [j1' c' (by omega) (by omega)]; exact hS0' c' hc') (t_HMk hM' (j1' 92 (by decide) (by decide)) (j1' 94 (by decide) (by decide)) (j1' 96 (by decide) (by decide)) (j2' 26 (by omega)) (j2' 27 (by omega))) hW' (t_LMk (t_LMT hL' u') (j2' 34 (by omega)) (j1' 89 (by decide) (by decide)) (j1' 90 (by decide) (by decide))) hg' y4' y6' kk' (e' (5 * i' + 3))
            rw [p_TT] at k1'
            have f4' : K' 104 (5 * i' + 4) = t_b had' := by rw [k2' 104 (by decide) (by decide), e104 4 (by omega)]; exact y7'
            have en' : t_en H' L' e' g'' kk' i' = decide (t_b (t_hj H' L' g'' kk' d' w' (e' (5 * i' + 3))) = t_b had') := by
              unfold t_en
              rw [y1', y3', y5', y7', p_nat d' (by omega), p_nat w' (by omega)]
              simp
            refine ⟨(t_b (t_al (t_en H' L' e' g'' kk') (i' + 1)), Int32.ofNat (i' + 1), (K', p_T X' u'')), ?_, hlt', K', u'', rfl, fun c' z1' z2' => by rw [k2' c' z1' z2']; exact j1' c' z1' z2', fun j' hj' => by rw [k3' j' hj']; exact j2' j' hj'⟩
            rw [t_al, ha', en']
            simp (disch := omega) only [↓ce_87 hB', rf_87 hB', ↓ce_104 hB', ↓nn_31, ↓nn_33, ↓nn_89, ↓nn_90, ↓nn_91, ↓nn_92, ↓nn_93, ↓nn_94, ↓nn_95, ↓nn_96, ↓nn_97, ↓nn_98, ↓nn_99, ↓nn_100, ↓nn_101, ↓nn_102, ↓nn_103, ↓nn_104, ↓nn_105, ↓nn_106, ↓nn_107, ↓nn_108, p_bs, p_rq0, p_rq1, p_rz0, p_rz1, p_us, p_un, p_uj, ↓reduceIte, l45', hlk', hlt', t_b0, Bool.true_eq_false, p_ar, e0', e104 1 (by omega), e104 2 (by omega), e104 3 (by omega), y1', y3', y5', k1']
            have hB' := p_BT hB0' u''
            simp (disch := omega) only [↓ce_87 hB', rf_87 hB', ↓ce_104 hB', ↓nn_31, ↓nn_33, ↓nn_89, ↓nn_90, ↓nn_91, ↓nn_92, ↓nn_93, ↓nn_94, ↓nn_95, ↓nn_96, ↓nn_97, ↓nn_98, ↓nn_99, ↓nn_100, ↓nn_101, ↓nn_102, ↓nn_103, ↓nn_104, ↓nn_105, ↓nn_106, ↓nn_107, ↓nn_108, p_bs, p_rq0, p_rq1, p_rz0, p_rz1, p_us, p_un, p_uj, ↓reduceIte, p_ar, f4', t_b1]
            generalize t_hj H' L' g'' kk' d' w' (e' (5 * i' + 3)) = q'
            cases had' <;> cases q' <;> first | rfl | simp [t_b]
          · have hne' : (Int32.ofNat g'' = Int32.ofNat g') = False := eq_false (fun e' => hgg' (p_inj e' (by omega) (by omega)))
            have en'' : t_en H' L' e' g' kk' i' = true := by
              unfold t_en
              rw [y1']
              simp only [hne', decide_false, Bool.not_false, Bool.true_or]
            refine ⟨(t_b (t_al (t_en H' L' e' g' kk') (i' + 1)), Int32.ofNat (i' + 1), (J', p_T X' u')), ?_, hlt', J', u', rfl, j1', j2'⟩
            rw [t_al, ha', en'']
            simp (disch := omega) only [↓ce_87 hB', rf_87 hB', ↓ce_104 hB', ↓nn_31, ↓nn_33, ↓nn_89, ↓nn_90, ↓nn_91, ↓nn_92, ↓nn_93, ↓nn_94, ↓nn_95, ↓nn_96, ↓nn_97, ↓nn_98, ↓nn_99, ↓nn_100, ↓nn_101, ↓nn_102, ↓nn_103, ↓nn_104, ↓nn_105, ↓nn_106, ↓nn_107, ↓nn_108, p_bs, p_rq0, p_rq1, p_rz0, p_rz1, p_us, p_un, p_uj, ↓reduceIte, l45', hlk', hlt', t_b0, Bool.true_eq_false, p_ar, e0', y1', hne']
            rfl
      · right
        have hi'' : i' = k' := by omega
        subst hi''
        refine ⟨_, ?_, J', u', rfl, j1', j2'⟩
        simp (disch := omega) only [↓ce_87 hB', rf_87 hB', ↓nn_31, ↓nn_33, ↓nn_89, ↓nn_90, ↓nn_91, ↓nn_92, ↓nn_93, ↓nn_94, ↓nn_95, ↓nn_96, ↓nn_97, ↓nn_98, ↓nn_99, ↓nn_100, ↓nn_101, ↓nn_102, ↓nn_103, ↓nn_104, ↓nn_105, ↓nn_106, ↓nn_107, ↓nn_108, p_bs, p_rq0, p_rq1, p_rz0, p_rz1, p_us, p_un, p_uj, ↓reduceIte, l45', hlk', Nat.lt_irrefl]) k' 0 q_fu (1, 0, (I', X')) (by omega) (by unfold q_fu; omega) ⟨I', X'.2.1 87 5, by rw [p_Ts]; rfl, fun _ _ _ => rfl, fun _ _ => rfl⟩
  exact ⟨J', u', h1', j1', j2'⟩
end PL'
