/-! likes: both sides -/
section PL'
variable {X' : p_X} {I' : p_I} {H' : t_H} {L' : t_L} {e' : Nat → Int32}
theorem s_liked (hB' : p_B X') (hS0' : p_S I') (hM' : t_HM H' I') (hW' : t_HW H') (hL' : t_LM L' X' I') {k' : Nat} (hk' : k' ≤ 10) (h45' : I' 87 45 = Int32.ofNat k') (he' : ∀ j', j' < 5 * k' → I' 104 j' = e' j') (hE' : t_CE H' e' k') {g' : Nat} (hg' : g' < t_ng H') : ∃ J' u', F_X12_liked 87 (Int32.ofNat g') (I', X') = some (t_lk (fun q' => t_al (t_en H' L' e' g' (Int32.ofNat q')) k') 4, (J', p_T X' u')) ∧ (∀ c', c' ≠ 87 → c' ≠ 91 → J' c' = I' c') ∧ (∀ j', ¬ t_m87 j' → J' 87 j' = I' 87 j') := by
  obtain ⟨z', h1', J', u', rfl, j1', j2'⟩ := p_lp (fun z' => B_X12_liked_4 87 (Int32.ofNat g') z'.1 z'.2.1 z'.2.2) (fun i' z' => ∃ J' u', z' = (t_lk (fun q' => t_al (t_en H' L' e' g' (Int32.ofNat q')) k') i', Int32.ofNat i', (J', p_T X' u')) ∧ (∀ c', c' ≠ 87 → c' ≠ 91 → J' c' = I' c') ∧ (∀ j', ¬ t_m87 j' → J' 87 j' = I' 87 j'))
    (fun z' => ∃ J' u', z' = (t_lk (fun q' => t_al (t_en H' L' e' g' (Int32.ofNat q')) k') 4, (J', p_T X' u')) ∧ (∀ c', c' ≠ 87 → c' ≠ 91 → J' c' = I' c') ∧ (∀ j', ¬ t_m87 j' → J' 87 j' = I' 87 j')) 4 (by
      rintro i' z' hi' ⟨J', u', rfl, j1', j2'⟩
      have hl8' : (Int32.ofNat i' < 4) = (i' < 4) := p_lt i' 4 (by omega) (by decide)
      have hB0' := hB'
      have hB' := p_BT hB0' u'
      unfold B_X12_liked_4 J_X12_liked_130_4
      by_cases hlt' : i' < 4
      · left
        obtain ⟨K', u'', k1', k2', k3'⟩ := s_liked15 (I' := J') (L' := L') (e' := e') hB' (fun c' hc' => by rw [j1' c' (by omega) (by omega)]; exact hS0' c' hc') (t_HMk hM' (j1' 92 (by decide) (by decide)) (j1' 94 (by decide) (by decide)) (j1' 96 (by decide) (by decide)) (j2' 26 (by omega)) (j2' 27 (by omega))) hW' (t_LMk (t_LMT hL' u') (j2' 34 (by omega)) (j1' 89 (by decide) (by decide)) (j1' 90 (by decide) (by decide))) hk' (by rw [j2' 45 (by omega)]; exact h45') (by rw [j1' 104 (by decide) (by decide)]; exact he') hE' hg' (t_lk (fun q' => t_al (t_en H' L' e' g' (Int32.ofNat q')) k') i') (Int32.ofNat i')
        rw [p_TT] at k1'
        have kf' : ∀ c', c' ≠ 87 → c' ≠ 91 → K' c' = I' c' := fun c' z1' z2' => by rw [k2' c' z1' z2']; exact j1' c' z1' z2'
        have kg' : ∀ j', ¬ t_m87 j' → K' 87 j' = I' 87 j' := fun j' hj' => by rw [k3' j' hj']; exact j2' j' hj'
        cases hb' : t_al (t_en H' L' e' g' (Int32.ofNat i')) k'
        · simp (disch := omega) only [p_bs, p_rq0, p_rq1, p_rz0, p_rz1, p_us, p_un, p_uj, ↓reduceIte, hl8', hlt', k1', hb', t_b0, p_ar, Int32.or_zero]
          exact ⟨_, rfl, True.intro, K', u'', by rw [t_lk]; simp only [hb', Bool.false_eq_true, ↓reduceIte], kf', kg'⟩
        · simp (disch := omega) only [p_bs, p_rq0, p_rq1, p_rz0, p_rz1, p_us, p_un, p_uj, ↓reduceIte, hl8', hlt', k1', hb', t_b0, Bool.true_eq_false, p_ar]
          exact ⟨_, rfl, True.intro, K', u'', by rw [t_lk]; simp only [hb', ↓reduceIte], kf', kg'⟩
      · right
        have hi'' : i' = 4 := by omega
        subst hi''
        simp (disch := omega) only [p_bs, p_rq0, p_rq1, p_rz0, p_rz1, p_us, p_un, p_uj, ↓reduceIte, hl8', Nat.lt_irrefl]
        exact ⟨_, rfl, J', u', rfl, j1', j2'⟩) 4 0 q_fu (0, 0, (I', X')) (by omega) (by unfold q_fu; omega) ⟨I', X'.2.1 87 5, by rw [p_Ts]; rfl, fun _ _ _ => rfl, fun _ _ => rfl⟩
  refine ⟨J', u', ?_, j1', j2'⟩
  unfold F_X12_liked
  rw [h1']
  rfl
end PL'
section PL'
variable {A' : v_A} {X' : p_X} {I' : p_I}
theorem m_likes (h' : v_V A' I' X') (l' : Int32) : ∃ r' I1' J' X1', F_X11_likes 36 l' (I', X') = some (r', (I1', X')) ∧ F_X12_likes 87 l' (I1', X') = some (r', (J', X1')) ∧ v_V A' J' X1' := by
  have hB' := h'.1
  obtain ⟨L', hLC', hLM'⟩ := v_law h'
  have hsc' := p_scN hLC'
  have hH' := h'.2.2.2.1
  have hg' := s_hasGuest hB' hH'.2.1 l'
  have hg'' := s_isGuest hB' (v_thr h').2.2.2.1.2.2.1 l'
  have hng6' : t_ng A'.1 ≤ 6 := hH'.2.1.2.2.2.2.2.2.2
  obtain ⟨k', q1', q2', q3', q4', q5'⟩ := h'.2.2.2.2.2.2.2.1
  cases hr' : t_inr l' (t_ng A'.1)
  · refine ⟨-1, I', _, X', ?_, ?_, v_thr h'⟩
    · unfold F_X11_likes
      simp (disch := omega) only [↓ce_36 hB', rf_36 hB', ↓ce_39 hB', rf_39 hB', ↓nn_38, ↓nn_40, ↓nn_41, ↓nn_42, ↓nn_43, ↓nn_44, ↓nn_45, ↓nn_50, ↓nn_52, ↓nn_53, ↓nn_54, ↓nn_56, ↓nn_58, ↓nn_64, ↓nn_67, ↓nn_68, ↓nn_84, p_bs, p_rq0, p_rq1, p_rz0, p_rz1, p_us, p_un, p_uj, ↓reduceIte, hg', hr', t_b0]
    · unfold F_X12_likes
      simp (disch := omega) only [↓ce_87 hB', rf_87 hB', ↓nn_31, ↓nn_33, ↓nn_89, ↓nn_90, ↓nn_91, ↓nn_92, ↓nn_93, ↓nn_94, ↓nn_95, ↓nn_96, ↓nn_97, ↓nn_98, ↓nn_99, ↓nn_100, ↓nn_101, ↓nn_102, ↓nn_103, ↓nn_104, ↓nn_105, ↓nn_106, ↓nn_107, ↓nn_108, p_bs, p_rq0, p_rq1, p_rz0, p_rz1, p_us, p_un, p_uj, ↓reduceIte, hg'', hr', t_b0]
  · obtain ⟨g', hgl', rfl⟩ := t_inrE (by omega) hr'
    have hz' : A'.2.1 = true := by
      cases hz' : A'.2.1
      · have := (v_zf h' hz').2; omega
      · rfl
    have hHW' := hH'.2.2.2.1 hz'
    obtain ⟨I1', a1', a2'⟩ := s_kindsLeft (I' := I') (L' := L') hB' hH'.2.1 hHW' hLC' q1' q2' q5' hgl'
    have f1' : ∀ c', 70 ≤ c' → c' < 109 → I1' c' = I' c' := fun c' z1' z2' => a2' c' (by omega) (by omega)
    have hM1' : t_HM A'.1 (q_u2 I1' 87 0 0) := v_hm h' (by rw [p_uc _ _ _ _ _ (by decide), f1' 92 (by decide) (by decide)]) (by rw [p_uc _ _ _ _ _ (by decide), f1' 94 (by decide) (by decide)]) (by rw [p_uc _ _ _ _ _ (by decide), f1' 96 (by decide) (by decide)]) (by rw [p_uj _ _ _ _ _ (by decide), f1' 87 (by decide) (by decide)]) (by rw [p_uj _ _ _ _ _ (by decide), f1' 87 (by decide) (by decide)])
    have hg2' := s_isGuest hB' hM1' (Int32.ofNat g')
    obtain ⟨J', u', b1', b2', b3'⟩ := s_liked (I' := q_u2 I1' 87 0 0) (L' := L') (e' := I' 84) hB' (fun c' hc' => by rw [p_uc _ _ _ _ _ (by omega), a2' c' (by omega) (by omega)]; exact h'.2.1 c' hc') hM1' hHW' (t_LMk hLM' (by rw [p_uj _ _ _ _ _ (by decide), f1' 87 (by decide) (by decide)]) (by rw [p_uc _ _ _ _ _ (by decide), f1' 89 (by decide) (by decide)]) (by rw [p_uc _ _ _ _ _ (by decide), f1' 90 (by decide) (by decide)])) q1' (by rw [p_uj _ _ _ _ _ (by decide), f1' 87 (by decide) (by decide)]; exact q3') (by rw [p_uc _ _ _ _ _ (by decide), f1' 104 (by decide) (by decide)]; exact q4') q5' hgl'
    refine ⟨t_lk (fun q' => t_al (t_en A'.1 L' (I' 84) g' (Int32.ofNat q')) k') 4, I1', J', p_T X' u', ?_, ?_, v_ask h' (fun c' z1' z2' z3' z4' z5' => a2' c' z3' z4') (fun c' z1' z2' z3' z4' => by rw [b2' c' z1' z2', p_uc _ _ _ _ _ z1']) (fun j' z1' z2' => by rw [b3' j' z1', p_uj _ _ _ _ _ z2'])⟩
    · unfold F_X11_likes
      simp (disch := omega) only [↓ce_36 hB', rf_36 hB', ↓ce_39 hB', rf_39 hB', ↓ce_83 hB', rf_83 hB', ↓nn_38, ↓nn_40, ↓nn_41, ↓nn_42, ↓nn_43, ↓nn_44, ↓nn_45, ↓nn_50, ↓nn_52, ↓nn_53, ↓nn_54, ↓nn_56, ↓nn_58, ↓nn_64, ↓nn_67, ↓nn_68, ↓nn_84, ↓nn_85, p_bs, p_rq0, p_rq1, p_rz0, p_rz1, p_us, p_un, p_uj, ↓reduceIte, hg', hr', t_b0, Bool.true_eq_false, a1']
    · unfold F_X12_likes
      simp (disch := omega) only [↓ce_87 hB', rf_87 hB', ↓nn_31, ↓nn_33, ↓nn_89, ↓nn_90, ↓nn_91, ↓nn_92, ↓nn_93, ↓nn_94, ↓nn_95, ↓nn_96, ↓nn_97, ↓nn_98, ↓nn_99, ↓nn_100, ↓nn_101, ↓nn_102, ↓nn_103, ↓nn_104, ↓nn_105, ↓nn_106, ↓nn_107, ↓nn_108, p_bs, p_rq0, p_rq1, p_rz0, p_rz1, p_us, p_un, p_uj, ↓reduceIte, hg2', hr', t_b0, Bool.true_eq_false, b1']
end PL'
