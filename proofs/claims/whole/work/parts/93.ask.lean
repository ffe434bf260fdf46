/-! leaves, madeUp -/
def t_fi (P' : Nat → Bool) : Nat → Nat → Option Nat
  | 0, _ => none
  | m' + 1, i' => if P' i' = true then some i' else t_fi P' m' (i' + 1)
def t_ex (o' : Option Nat) (M' : q_Mem) : (Int32 × q_Mem) ⊕ q_Mem := match o' with
  | some r' => .inl (Int32.ofNat r', M')
  | none => .inr M'
def t_or (o' : Option Nat) : Int32 := match o' with
  | some r' => Int32.ofNat r'
  | none => -1
section PQ'
variable {X' : p_X} {I' : p_I} {H' : t_H} {L' : t_L} {s' : Nat → Int32}
theorem s_leavesC (hB' : p_B X') (hH' : t_HI H' I') (hW' : t_HW H') (hL' : t_LC L' X' I') (hS' : t_WF H' (I' 69)) {D' : Nat} (hD' : I' 69 0 = Int32.ofNat D') (hD'' : D' ≤ 999) (g' : Nat) : ∃ J', q_lp (fun z' => B_X2_daysToLeaving_10 67 (Int32.ofNat g') z'.1 z'.2) q_fu ((1 : Int32), (I', X')) = some (t_ex (t_fi (fun x' => t_bit (t_yi H' L' (I' 69) x' 4) g') 60 1) (J', X')) ∧ (∀ c', c' ≠ 63 → c' ≠ 64 → c' ≠ 65 → c' ≠ p_sc X' → c' ≠ 69 → J' c' = I' c') := by
  have hsc' := p_scN hL'
  obtain ⟨z', h1', J', rfl, j1'⟩ := p_lp (fun z' => B_X2_daysToLeaving_10 67 (Int32.ofNat g') z'.1 z'.2) (fun i' z' => ∃ J', z' = (Int32.ofNat (i' + 1), (J', X')) ∧ (∀ c', c' ≠ 63 → c' ≠ 64 → c' ≠ 65 → c' ≠ p_sc X' → c' ≠ 69 → J' c' = I' c') ∧ J' 69 = t_yi H' L' (I' 69) i' ∧ t_fi (fun x' => t_bit (t_yi H' L' (I' 69) x' 4) g') (60 - i') (i' + 1) = t_fi (fun x' => t_bit (t_yi H' L' (I' 69) x' 4) g') 60 1)
    (fun z' => ∃ J', z' = t_ex (t_fi (fun x' => t_bit (t_yi H' L' (I' 69) x' 4) g') 60 1) (J', X') ∧ (∀ c', c' ≠ 63 → c' ≠ 64 → c' ≠ 65 → c' ≠ p_sc X' → c' ≠ 69 → J' c' = I' c')) 60 (by
      rintro i' z' hi' ⟨J', rfl, j1', j2', j3'⟩
      have h60' : (60 < Int32.ofNat (i' + 1)) = (60 < i' + 1) := p_lt 60 (i' + 1) (by decide) (by omega)
      unfold B_X2_daysToLeaving_10
      by_cases hlt' : i' < 60
      · have hw' := t_yiW (L' := L') hW' hS' hD' i' (by omega)
        obtain ⟨K', k1', k2', k3', k4'⟩ := s_pass (I' := J') (k' := 68) (L' := L') hB' (t_HIk hH' (fun c' h1' h2' => j1' c' (by omega) (by omega) (by omega) (by omega) (by omega))) hW' (by omega) (by rw [j2']; exact hw'.1) (t_LCk hL' (fun c' h1' h2' => j1' c' (by omega) (by omega) (by omega) h2' (by omega)))
        have k4'' : K' 69 = t_yi H' L' (I' 69) (i' + 1) := by
          have k4'' : K' 69 = t_ps H' L' (J' 69) := k4'
          rw [k4'', j2']
          rfl
        have kf' : ∀ c', c' ≠ 63 → c' ≠ 64 → c' ≠ 65 → c' ≠ p_sc X' → c' ≠ 69 → K' c' = I' c' := fun c' h1' h2' h3' h4' h5' => by rw [k2' c' h1' h2' h3' h4' h5']; exact j1' c' h1' h2' h3' h4' h5'
        have hl' : F_X8_hasLeft 68 (Int32.ofNat g') (K', X') = some (t_b (t_bit (K' 69 4) g')) := s_hasLeft (I' := K') (k' := 68) hB' (by omega) g'
        rw [k4''] at hl'
        have hn' : ¬ 60 < i' + 1 := by omega
        have e60' : 60 - i' = (60 - (i' + 1)) + 1 := by omega
        rw [e60', t_fi] at j3'
        cases hb' : t_bit (t_yi H' L' (I' 69) (i' + 1) 4) g'
        · left
          simp (disch := omega) only [↓ce_67 hB', rf_67 hB', ↓ce_63 hB', rf_63 hB', ↓ce_68 hB', rf_68 hB', ↓nn_40, ↓nn_64, ↓nn_65, ↓nn_66, ↓nn_67, ↓nn_69, ↓nn_70, ↓nn_71, ↓nn_72, ↓nn_73, p_bs, p_rq0, p_rq1, p_rz0, p_rz1, p_us, p_un, p_uj, ↓reduceIte, h60', hn', k1', hl', hb', t_b0, p_ar]
          refine ⟨_, rfl, hlt', K', rfl, kf', k4'', ?_⟩
          rw [← j3', hb']
          rfl
        · right
          simp (disch := omega) only [↓ce_67 hB', rf_67 hB', ↓ce_63 hB', rf_63 hB', ↓ce_68 hB', rf_68 hB', ↓nn_40, ↓nn_64, ↓nn_65, ↓nn_66, ↓nn_67, ↓nn_69, ↓nn_70, ↓nn_71, ↓nn_72, ↓nn_73, p_bs, p_rq0, p_rq1, p_rz0, p_rz1, p_us, p_un, p_uj, ↓reduceIte, h60', hn', k1', hl', hb', t_b0, Bool.true_eq_false, p_ar]
          refine ⟨_, rfl, K', ?_, kf'⟩
          rw [← j3', hb']
          rfl
      · right
        have hi'' : i' = 60 := by omega
        subst hi''
        simp (disch := omega) only [p_bs, p_rq0, p_rq1, p_rz0, p_rz1, p_us, p_un, p_uj, ↓reduceIte, h60', show (60 < 60 + 1) = True from by decide]
        refine ⟨_, rfl, J', ?_, j1'⟩
        rw [← j3']
        rfl) 60 0 q_fu (1, (I', X')) (by omega) (by unfold q_fu; omega) ⟨I', rfl, fun _ _ _ _ _ _ => rfl, rfl, rfl⟩
  exact ⟨J', h1', j1'⟩
theorem s_leavesM (hB' : p_B X') (hS0' : p_S I') (hM' : t_HM H' I') (hW' : t_HW H') (hS' : t_WF H' s') (hR' : t_RS s' (I' 101)) (h36' : ∃ n', n' ≤ 60 ∧ I' 101 36 = Int32.ofNat n') (hL' : t_LM L' X' I') {D' : Nat} (hD' : s' 0 = Int32.ofNat D') (hD'' : D' ≤ 999) (g' : Nat) (hg' : g' < 6) : ∃ J' u', q_lp (fun z' => B_X12_leaves_42 87 (Int32.ofNat g') z'.1 z'.2) q_fu ((1 : Int32), (I', X')) = some (t_ex (t_fi (fun x' => t_bit (t_yi H' L' s' x' 4) g') 60 1) (J', p_T X' u')) ∧ (∀ c', c' ≠ 87 → c' ≠ 91 → c' ≠ 102 → c' ≠ 101 → J' c' = I' c') ∧ (∀ j', ¬ t_m87 j' → J' 87 j' = I' 87 j') := by
  obtain ⟨z', h1', J', u', rfl, j1', j2'⟩ := p_lp (fun z' => B_X12_leaves_42 87 (Int32.ofNat g') z'.1 z'.2) (fun i' z' => ∃ J' u', z' = (Int32.ofNat (i' + 1), (J', p_T X' u')) ∧ (∀ c', c' ≠ 87 → c' ≠ 91 → c' ≠ 102 → c' ≠ 101 → J' c' = I' c') ∧ (∀ j', ¬ t_m87 j' → J' 87 j' = I' 87 j') ∧ t_RS (t_yi H' L' s' i') (J' 101) ∧ (∃ n', n' ≤ 60 ∧ J' 101 36 = Int32.ofNat n') ∧ t_fi (fun x' => t_bit (t_yi H' L' s' x' 4) g') (60 - i') (i' + 1) = t_fi (fun x' => t_bit (t_yi H' L' s' x' 4) g') 60 1)
    (fun z' => ∃ J' u', z' = t_ex (t_fi (fun x' => t_bit (t_yi H' L' s' x' 4) g') 60 1) (J', p_T X' u') ∧ (∀ c', c' ≠ 87 → c' ≠ 91 → c' ≠ 102 → c' ≠ 101 → J' c' = I' c') ∧ (∀ j', ¬ t_m87 j' → J' 87 j' = I' 87 j')) 60 (by
      rintro i' z' hi' ⟨J', u', rfl, j1', j2', j3', ⟨m', j4', j5'⟩, j6'⟩
      have hB0' := hB'
      have hB' := p_BT hB0' u'
      have h60' : (60 < Int32.ofNat (i' + 1)) = (60 < i' + 1) := p_lt 60 (i' + 1) (by decide) (by omega)
      unfold B_X12_leaves_42
      by_cases hlt' : i' < 60
      · have hw' := t_yiW (L' := L') hW' hS' hD' i' (by omega)
        obtain ⟨K', u'', k1', k2', k3', k4', k5'⟩ := s_goDay (I' := J') (s' := t_yi H' L' s' i') (c' := 101) (L' := L') hB' (fun c' hc' => by rw [j1' c' (by omega) (by omega) (by omega) (by omega)]; exact hS0' c' hc') (t_HMk hM' (j1' 92 (by decide) (by decide) (by decide) (by decide)) (j1' 94 (by decide) (by decide) (by decide) (by decide)) (j1' 96 (by decide) (by decide) (by decide) (by decide)) (j2' 26 (by omega)) (j2' 27 (by omega))) hW' hw'.1 (.inr rfl) j3' (t_LMk (t_LMT hL' u') (j2' 34 (by omega)) (j1' 89 (by decide) (by decide) (by decide) (by decide)) (j1' 90 (by decide) (by decide) (by decide) (by decide))) hw'.2 (by omega) j4' j5'
        rw [p_TT] at k1'
        have k4'' : t_RS (t_yi H' L' s' (i' + 1)) (K' 101) := k4'
        have kw' : K' 101 (4 * g' + 3) = t_b (t_bit (t_yi H' L' s' (i' + 1) 4) g') := (k4''.1.1 g' hg').2.2.2
        have hn' : ¬ 60 < i' + 1 := by omega
        have e60' : 60 - i' = (60 - (i' + 1)) + 1 := by omega
        rw [e60', t_fi] at j6'
        have kf' : ∀ c', c' ≠ 87 → c' ≠ 91 → c' ≠ 102 → c' ≠ 101 → K' c' = I' c' := fun c' h1' h2' h3' h4' => by rw [k2' c' h1' h2' h3' h4']; exact j1' c' h1' h2' h3' h4'
        have kg' : ∀ j', ¬ t_m87 j' → K' 87 j' = I' 87 j' := fun j' hj' => by rw [k3' j' (by omega) (by omega) (by omega)]; exact j2' j' hj'
        cases hb' : t_bit (t_yi H' L' s' (i' + 1) 4) g'
        · left
          simp (disch := omega) only [↓ce_87 hB', rf_87 hB', ↓nn_31, ↓nn_33, ↓nn_89, ↓nn_90, ↓nn_91, ↓nn_92, ↓nn_93, ↓nn_94, ↓nn_95, ↓nn_96, ↓nn_97, ↓nn_98, ↓nn_99, ↓nn_100, ↓nn_101, ↓nn_102, ↓nn_103, ↓nn_104, ↓nn_105, ↓nn_106, ↓nn_107, ↓nn_108, p_bs, p_rq0, p_rq1, p_rz0, p_rz1, p_us, p_un, p_uj, ↓reduceIte, h60', hn', k1']
          have hB' := p_BT hB0' u''
          simp (disch := omega) only [↓ce_87 hB', rf_87 hB', ↓ce_101 hB', ↓nn_31, ↓nn_33, ↓nn_89, ↓nn_90, ↓nn_91, ↓nn_92, ↓nn_93, ↓nn_94, ↓nn_95, ↓nn_96, ↓nn_97, ↓nn_98, ↓nn_99, ↓nn_100, ↓nn_101, ↓nn_102, ↓nn_103, ↓nn_104, ↓nn_105, ↓nn_106, ↓nn_107, ↓nn_108, p_bs, p_rq0, p_rq1, p_rz0, p_rz1, p_us, p_un, p_uj, ↓reduceIte, p_ar, kw', hb', t_b1, Bool.false_eq_true]
          refine ⟨_, rfl, hlt', K', u'', rfl, kf', kg', k4'', t_LU36 k5', ?_⟩
          rw [← j6', hb']
          rfl
        · right
          simp (disch := omega) only [↓ce_87 hB', rf_87 hB', ↓nn_31, ↓nn_33, ↓nn_89, ↓nn_90, ↓nn_91, ↓nn_92, ↓nn_93, ↓nn_94, ↓nn_95, ↓nn_96, ↓nn_97, ↓nn_98, ↓nn_99, ↓nn_100, ↓nn_101, ↓nn_102, ↓nn_103, ↓nn_104, ↓nn_105, ↓nn_106, ↓nn_107, ↓nn_108, p_bs, p_rq0, p_rq1, p_rz0, p_rz1, p_us, p_un, p_uj, ↓reduceIte, h60', hn', k1']
          have hB' := p_BT hB0' u''
          simp (disch := omega) only [↓ce_87 hB', rf_87 hB', ↓ce_101 hB', ↓nn_31, ↓nn_33, ↓nn_89, ↓nn_90, ↓nn_91, ↓nn_92, ↓nn_93, ↓nn_94, ↓nn_95, ↓nn_96, ↓nn_97, ↓nn_98, ↓nn_99, ↓nn_100, ↓nn_101, ↓nn_102, ↓nn_103, ↓nn_104, ↓nn_105, ↓nn_106, ↓nn_107, ↓nn_108, p_bs, p_rq0, p_rq1, p_rz0, p_rz1, p_us, p_un, p_uj, ↓reduceIte, p_ar, kw', hb', t_b1]
          refine ⟨_, rfl, K', u'', ?_, kf', kg'⟩
          rw [← j6', hb']
          rfl
      · right
        have hi'' : i' = 60 := by omega
        subst hi''
        simp (disch := omega) only [p_bs, p_rq0, p_rq1, p_rz0, p_rz1, p_us, p_un, p_uj, ↓reduceIte, h60', show (60 < 60 + 1) = True from by decide]
        refine ⟨_, rfl, J', u', ?_, j1', j2'⟩
        rw [← j6']
        rfl) 60 0 q_fu (1, (I', X')) (by omega) (by unfold q_fu; omega) ⟨I', X'.2.1 87 5, by rw [p_Ts]; rfl, fun _ _ _ _ _ => rfl, fun _ _ => rfl, hR', h36', rfl⟩
  exact ⟨J', u', h1', j1', j2'⟩
end PQ'
section PQ'
variable {A' : v_A} {X' : p_X} {I' : p_I}
theorem m_leaves (h' : v_V A' I' X') (l' : Int32) : ∃ r' I1' J' X1', F_X11_leaves 36 l' (I', X') = some (r', (I1', X')) ∧ F_X12_leaves 87 l' (I1', X') = some (r', (J', X1')) ∧ v_V A' J' X1' := by
  have hB' := h'.1
  obtain ⟨L', hLC', hLM'⟩ := v_law h'
  have hsc' := p_scN hLC'
  have hH' := h'.2.2.2.1
  have hg' := s_hasGuest hB' hH'.2.1 l'
  have hg'' := s_isGuest hB' (v_thr h').2.2.2.1.2.2.1 l'
  have hng6' : t_ng A'.1 ≤ 6 := hH'.2.1.2.2.2.2.2.2.2
  cases hr' : t_inr l' (t_ng A'.1)
  · refine ⟨-1, I', _, X', ?_, ?_, v_thr h'⟩
    · unfold F_X11_leaves
      simp (disch := omega) only [↓ce_36 hB', rf_36 hB', ↓ce_39 hB', rf_39 hB', ↓nn_38, ↓nn_40, ↓nn_41, ↓nn_42, ↓nn_43, ↓nn_44, ↓nn_45, ↓nn_50, ↓nn_52, ↓nn_53, ↓nn_54, ↓nn_56, ↓nn_58, ↓nn_64, ↓nn_67, ↓nn_68, ↓nn_84, p_bs, p_rq0, p_rq1, p_rz0, p_rz1, p_us, p_un, p_uj, ↓reduceIte, hg', hr', t_b0]
    · unfold F_X12_leaves
      simp (disch := omega) only [↓ce_87 hB', rf_87 hB', ↓nn_31, ↓nn_33, ↓nn_89, ↓nn_90, ↓nn_91, ↓nn_92, ↓nn_93, ↓nn_94, ↓nn_95, ↓nn_96, ↓nn_97, ↓nn_98, ↓nn_99, ↓nn_100, ↓nn_101, ↓nn_102, ↓nn_103, ↓nn_104, ↓nn_105, ↓nn_106, ↓nn_107, ↓nn_108, p_bs, p_rq0, p_rq1, p_rz0, p_rz1, p_us, p_un, p_uj, ↓reduceIte, hg'', hr', t_b0]
  · obtain ⟨g', hgl', rfl⟩ := t_inrE (by omega) hr'
    have hz' : A'.2.1 = true := by
      cases hz' : A'.2.1
      · have := (v_zf h' hz').2; omega
      · rfl
    have hHW' := hH'.2.2.2.1 hz'
    obtain ⟨w1', w2', w3', w4', w5', w6'⟩ := h'.2.2.2.2.1.1 hz'
    have hl' : F_X8_hasLeft 53 (Int32.ofNat g') (I', X') = some (t_b (t_bit (I' 54 4) g')) := s_hasLeft (I' := I') (k' := 53) hB' (by omega) g'
    have hw' : I' 100 (4 * g' + 3) = t_b (t_bit (I' 54 4) g') := (w2'.1.1 g' (by omega)).2.2.2
    cases hb' : t_bit (I' 54 4) g'
    · obtain ⟨J1', a1', a2', a3'⟩ := s_copyFrom (I' := I') (k1' := 68) (k2' := 53) hB' (by omega) (by omega)
      have a2'' : ∀ c', c' ≠ 69 → J1' c' = I' c' := a2'
      have a3'' : ∀ j', j' < 31 → J1' 69 j' = I' 54 j' := a3'
      obtain ⟨I1', b1', b2'⟩ := s_leavesC (I' := J1') (L' := L') hB' (t_HIk hH'.2.1 (fun c' h1' h2' => a2'' c' (by omega))) hHW' (t_LCk hLC' (fun c' h1' h2' => a2'' c' (by omega))) (t_WFa w1' a3'') (D' := A'.2.2.1) (by rw [a3'' 0 (by decide)]; exact w3') w4' g'
      have f' : ∀ c', c' ≠ 63 → c' ≠ 64 → c' ≠ 65 → c' ≠ p_sc X' → c' ≠ 69 → I1' c' = I' c' := fun c' z1' z2' z3' z4' z5' => by rw [b2' c' z1' z2' z3' z4' z5']; exact a2'' c' z5'
      have f1' : ∀ c', 70 ≤ c' → c' < 109 → I1' c' = I' c' := fun c' z1' z2' => f' c' (by omega) (by omega) (by omega) (by omega) (by omega)
      obtain ⟨J2', c1', c2', c3', c4'⟩ := s_mcopy (I' := q_u2 I1' 87 0 0) hB'
      have g1' : ∀ c', 70 ≤ c' → c' < 109 → c' ≠ 87 → c' ≠ 101 → J2' c' = I' c' := fun c' z1' z2' z3' z4' => by rw [c2' c' z4', p_uc _ _ _ _ _ z3']; exact f1' c' z1' z2'
      have g87' : ∀ j', j' ≠ 0 → J2' 87 j' = I' 87 j' := fun j' hj' => by rw [c2' 87 (by decide), p_uj _ _ _ _ _ hj', f1' 87 (by decide) (by decide)]
      have hM1' : t_HM A'.1 (q_u2 I1' 87 0 0) := v_hm h' (by rw [p_uc _ _ _ _ _ (by decide), f1' 92 (by decide) (by decide)]) (by rw [p_uc _ _ _ _ _ (by decide), f1' 94 (by decide) (by decide)]) (by rw [p_uc _ _ _ _ _ (by decide), f1' 96 (by decide) (by decide)]) (by rw [p_uj _ _ _ _ _ (by decide), f1' 87 (by decide) (by decide)]) (by rw [p_uj _ _ _ _ _ (by decide), f1' 87 (by decide) (by decide)])
      have hM2' : t_HM A'.1 J2' := v_hm h' (g1' 92 (by decide) (by decide) (by decide) (by decide)) (g1' 94 (by decide) (by decide) (by decide) (by decide)) (g1' 96 (by decide) (by decide) (by decide) (by decide)) (g87' 26 (by decide)) (g87' 27 (by decide))
      have e101 : ∀ j', j' < 36 → J2' 101 j' = I' 100 j' := fun j' hj' => by rw [c3' j' hj', p_uc _ _ _ _ _ (by decide), f1' 100 (by decide) (by decide)]
      obtain ⟨J', u', d1', d2', d3'⟩ := s_leavesM (I' := J2') (H' := A'.1) (L' := L') (s' := J1' 69) hB' (fun c' hc' => by rw [c2' c' (by omega), p_uc _ _ _ _ _ (by omega), f' c' (by omega) (by omega) (by omega) (by omega) (by omega)]; exact h'.2.1 c' hc') hM2' hHW' (t_WFa w1' a3'') (t_RSa w2' a3'' e101) ⟨0, by omega, c4'⟩ (t_LMk hLM' (g87' 34 (by decide)) (g1' 89 (by decide) (by decide) (by decide) (by decide)) (g1' 90 (by decide) (by decide) (by decide) (by decide))) (D' := A'.2.2.1) (by rw [a3'' 0 (by decide)]; exact w3') w4' g' (by omega)
      have hg2' := s_isGuest hB' hM1' (Int32.ofNat g')
      have hw2' : I1' 100 (4 * g' + 3) = t_b false := by rw [f1' 100 (by decide) (by decide), hw', hb']
      refine ⟨t_or (t_fi (fun x' => t_bit (t_yi A'.1 L' (J1' 69) x' 4) g') 60 1), I1', J', p_T X' u', ?_, ?_, v_ask h' f' (fun c' z1' z2' z3' z4' => by rw [d2' c' z1' z2' z3' z4', c2' c' z4', p_uc _ _ _ _ _ z1']) (fun j' z1' z2' => by rw [d3' j' z1', c2' 87 (by decide), p_uj _ _ _ _ _ z2'])⟩
      · unfold F_X11_leaves F_X2_daysToLeaving
        simp (disch := omega) only [↓ce_36 hB', rf_36 hB', ↓ce_39 hB', rf_39 hB', ↓ce_53 hB', rf_53 hB', ↓ce_67 hB', rf_67 hB', ↓ce_68 hB', rf_68 hB', ↓nn_38, ↓nn_40, ↓nn_41, ↓nn_42, ↓nn_43, ↓nn_44, ↓nn_45, ↓nn_50, ↓nn_52, ↓nn_53, ↓nn_54, ↓nn_55, ↓nn_56, ↓nn_58, ↓nn_64, ↓nn_67, ↓nn_68, ↓nn_69, ↓nn_70, ↓nn_71, ↓nn_72, ↓nn_73, ↓nn_84, p_bs, p_rq0, p_rq1, p_rz0, p_rz1, p_us, p_un, p_uj, ↓reduceIte, hg', hr', hl', hb', t_b0, Bool.true_eq_false, a1', b1']
        cases t_fi (fun x' => t_bit (t_yi A'.1 L' (J1' 69) x' 4) g') 60 1 <;> rfl
      · unfold F_X12_leaves
        simp (disch := omega) only [↓ce_87 hB', rf_87 hB', ↓ce_100 hB', ↓nn_31, ↓nn_33, ↓nn_89, ↓nn_90, ↓nn_91, ↓nn_92, ↓nn_93, ↓nn_94, ↓nn_95, ↓nn_96, ↓nn_97, ↓nn_98, ↓nn_99, ↓nn_100, ↓nn_101, ↓nn_102, ↓nn_103, ↓nn_104, ↓nn_105, ↓nn_106, ↓nn_107, ↓nn_108, p_bs, p_rq0, p_rq1, p_rz0, p_rz1, p_us, p_un, p_uj, ↓reduceIte, hg2', hr', t_b0, Bool.true_eq_false, p_ar, hw2', t_b1, Bool.false_eq_true, c1', d1']
        cases t_fi (fun x' => t_bit (t_yi A'.1 L' (J1' 69) x' 4) g') 60 1 <;> rfl
    · refine ⟨-1, I', _, X', ?_, ?_, v_thr h'⟩
      · unfold F_X11_leaves
        simp (disch := omega) only [↓ce_36 hB', rf_36 hB', ↓ce_39 hB', rf_39 hB', ↓ce_53 hB', rf_53 hB', ↓nn_38, ↓nn_40, ↓nn_41, ↓nn_42, ↓nn_43, ↓nn_44, ↓nn_45, ↓nn_50, ↓nn_52, ↓nn_53, ↓nn_54, ↓nn_55, ↓nn_56, ↓nn_58, ↓nn_64, ↓nn_67, ↓nn_68, ↓nn_84, p_bs, p_rq0, p_rq1, p_rz0, p_rz1, p_us, p_un, p_uj, ↓reduceIte, hg', hr', hl', hb', t_b0, Bool.true_eq_false]
      · unfold F_X12_leaves
        simp (disch := omega) only [↓ce_87 hB', rf_87 hB', ↓ce_100 hB', ↓nn_31, ↓nn_33, ↓nn_89, ↓nn_90, ↓nn_91, ↓nn_92, ↓nn_93, ↓nn_94, ↓nn_95, ↓nn_96, ↓nn_97, ↓nn_98, ↓nn_99, ↓nn_100, ↓nn_101, ↓nn_102, ↓nn_103, ↓nn_104, ↓nn_105, ↓nn_106, ↓nn_107, ↓nn_108, p_bs, p_rq0, p_rq1, p_rz0, p_rz1, p_us, p_un, p_uj, ↓reduceIte, hg'', hr', t_b0, Bool.true_eq_false, p_ar, hw', hb', t_b1]
end PQ'
