/-! all: both sides (laid by wip/whole/gen98.py) -/
section PY'
variable {A' : v_A} {X' : p_X} {I' : p_I}
theorem m_all (h' : v_V A' I' X') (l' : Int32) : ∃ r' I1' J' X1', F_X11_all 36 l' (I', X') = some (r', (I1', X')) ∧ F_X12_all 87 l' (I1', X') = some (r', (J', X1')) ∧ v_V A' J' X1' := by
  obtain ⟨L', hLC', hLM'⟩ := v_law h'
  have hsc' := p_scN hLC'
  obtain ⟨hB', hS', hT', hH', hN', hP', hG', hC', hL', hLH', hW', hD', hF'⟩ := id h'
  have h18' := hH'.1
  rcases v_t h' with ⟨hz', hR', hHW'⟩ | hz'
  · rw [hz'] at h18'
    obtain ⟨w1', w2', w3', w4', w5', w6'⟩ := id hR'
    have hng' := hHW'.2.2.2.1
    have hng1' := hHW'.2.2.1
    have hnd' := hHW'.2.1
    have hnd1' := hHW'.1
    obtain ⟨I1', a1', a2', a3'⟩ := s_lay (I' := I') (k' := 53) hB' hH'.2.1 hHW' (by omega) w1'
    have a3'' : t_EV A'.1 (I' 54) I1' := a3'
    have e54' : I1' 54 = I' 54 := a2' 54 (by decide) (by decide)
    have hHI' : t_HI A'.1 I1' := t_HIk hH'.2.1 (fun c' h1' h2' => a2' c' (by omega) (by omega))
    have n4' : I1' 39 4 = Int32.ofNat (t_nd A'.1) := hHI'.2.2.2.2.1
    have n5' : I1' 39 5 = Int32.ofNat (t_ng A'.1) := hHI'.2.2.2.2.2.1
    have f' : ∀ c', c' ≠ 63 → c' ≠ 64 → c' ≠ 87 → q_u2 I1' 87 0 0 c' = I' c' := fun c' z1' z2' z3' => by rw [p_uc _ _ _ _ _ z3']; exact a2' c' z1' z2'
    have f87' : ∀ j', j' ≠ 0 → q_u2 I1' 87 0 0 87 j' = I' 87 j' := fun j' hj' => by rw [p_uj _ _ _ _ _ hj', a2' 87 (by decide) (by decide)]
    have hM' : t_HM A'.1 (q_u2 I1' 87 0 0) := v_hm h' (f' _ (by decide) (by decide) (by decide)) (f' _ (by decide) (by decide) (by decide)) (f' _ (by decide) (by decide) (by decide)) (f87' _ (by decide)) (f87' _ (by decide))
    have n27' : q_u2 I1' 87 0 0 87 27 = Int32.ofNat (t_ng A'.1) := hM'.2.2.2.2
    have hR1' : t_RS (I' 54) (q_u2 I1' 87 0 0 100) := by rw [f' 100 (by decide) (by decide) (by decide)]; exact w2'
    have hS1' : p_S (q_u2 I1' 87 0 0) := fun c' hc' => by rw [f' c' (by omega) (by omega) (by omega)]; exact hS' c' hc'
    have hLM1' : t_LM L' X' (q_u2 I1' 87 0 0) := t_LMk hLM' (f87' _ (by decide)) (f' _ (by decide) (by decide) (by decide)) (f' _ (by decide) (by decide) (by decide))
    have hv0' : v_V A' (q_u2 I1' 87 0 0) (p_T X' (X'.2.1 87 5)) := v_ask h' (I1' := I1') (fun c' z1' z2' z3' z4' z5' => a2' c' z1' z2') (fun c' z1' z2' z3' z4' => p_uc _ _ _ _ _ z1') (fun j' z1' z2' => p_uj _ _ _ _ _ z2')
    rw [p_Ts] at hv0'
    cases hr' : t_inr l' 13
    · have hne' : ∀ k', k' < 13 → (l' = Int32.ofNat k') = False := fun k' hk' => by
        apply eq_false
        intro e'
        rw [e', t_inrN k' 13 (by omega) (by decide), decide_eq_true hk'] at hr'
        cases hr'
      have g0' : (l' = 0) = False := hne' 0 (by decide)
      have g1' : (l' = 1) = False := hne' 1 (by decide)
      have g2' : (l' = 2) = False := hne' 2 (by decide)
      have g3' : (l' = 3) = False := hne' 3 (by decide)
      have g4' : (l' = 4) = False := hne' 4 (by decide)
      have g5' : (l' = 5) = False := hne' 5 (by decide)
      have g6' : (l' = 6) = False := hne' 6 (by decide)
      have g7' : (l' = 7) = False := hne' 7 (by decide)
      have g8' : (l' = 8) = False := hne' 8 (by decide)
      have g9' : (l' = 9) = False := hne' 9 (by decide)
      have g10' : (l' = 10) = False := hne' 10 (by decide)
      have g11' : (l' = 11) = False := hne' 11 (by decide)
      have g12' : (l' = 12) = False := hne' 12 (by decide)
      refine ⟨-1, I1', _, X', ?_, ?_, hv0'⟩
      · unfold F_X11_all
        simp (disch := omega) only [↓ce_36 hB', rf_36 hB', ↓ce_53 hB', rf_53 hB', ↓ce_63 hB', rf_63 hB', ↓nn_38, ↓nn_40, ↓nn_45, ↓nn_50, ↓nn_52, ↓nn_53, ↓nn_54, ↓nn_55, ↓nn_56, ↓nn_58, ↓nn_64, ↓nn_65, ↓nn_66, ↓nn_67, ↓nn_68, ↓nn_84, p_bs, p_rq0, p_rq1, p_rz0, p_rz1, p_us, p_un, p_uj, ↓reduceIte, h18', t_b0, Bool.true_eq_false, a1', g0', g1', g2', g3', g4', g5', g6', g7', g8', g9', g10', g11', g12']
      · unfold F_X12_all
        simp (disch := omega) only [↓ce_87 hB', rf_87 hB', ↓nn_31, ↓nn_33, ↓nn_89, ↓nn_90, ↓nn_91, ↓nn_92, ↓nn_93, ↓nn_94, ↓nn_95, ↓nn_96, ↓nn_97, ↓nn_98, ↓nn_99, ↓nn_100, ↓nn_101, ↓nn_102, ↓nn_103, ↓nn_104, ↓nn_105, ↓nn_106, ↓nn_107, ↓nn_108, p_bs, p_rq0, p_rq1, p_rz0, p_rz1, p_us, p_un, p_uj, ↓reduceIte, n27', v_ng0 hHW', g0', g1', g2', g3', g4', g5', g6', g7', g8', g9', g10', g11', g12']
    · obtain ⟨q', hq', rfl⟩ := t_inrE (by decide) hr'
      clear hr'
      have ho' : q' = 0 ∨ q' = 1 ∨ q' = 2 ∨ q' = 3 ∨ q' = 4 ∨ q' = 5 ∨ q' = 6 ∨ q' = 7 ∨ q' = 8 ∨ q' = 9 ∨ q' = 10 ∨ q' = 11 ∨ q' = 12 := by omega
      rcases ho' with rfl | rfl | rfl | rfl | rfl | rfl | rfl | rfl | rfl | rfl | rfl | rfl | rfl
      · have c0' : F_X11_firstMost 54 25 1 (Int32.ofNat (t_ng A'.1)) (I1', X') = some (Int32.ofNat (yq_am (fun x' y' => decide (I' 54 (25 + x') < I' 54 (25 + y'))) (t_ng A'.1 - 1))) := by
          have := s_firstMost (I' := I1') (a' := 25) (b' := 1) (ct' := t_ng A'.1) (sh_54 hB') (by decide) hng1' hng' (fun i' hi' => by omega)
          rw [e54'] at this
          simp only [Nat.mul_one] at this
          exact this
        have hval : ∀ g', g' < t_ng A'.1 → F_X12_valueOf 87 (Int32.ofNat 0) (Int32.ofNat g') (q_u2 I1' 87 0 0, X') = some (I' 54 (25 + g')) := fun g' hg' => by
          obtain ⟨z1', z2', z3', z4'⟩ := hR1'.1.1 g' (by omega)
          unfold F_X12_valueOf
          simp (disch := omega) only [↓ce_87 hB', rf_87 hB', ↓ce_100 hB', ↓nn_31, ↓nn_33, ↓nn_89, ↓nn_90, ↓nn_91, ↓nn_92, ↓nn_93, ↓nn_94, ↓nn_95, ↓nn_96, ↓nn_97, ↓nn_98, ↓nn_99, ↓nn_100, ↓nn_101, ↓nn_102, ↓nn_103, ↓nn_104, ↓nn_105, ↓nn_106, ↓nn_107, ↓nn_108, p_bs, p_rq0, p_rq1, p_rz0, p_rz1, p_us, p_un, p_uj, ↓reduceIte, show (Int32.ofNat 0 = 0) = True from by decide, p_ar, Nat.add_zero, z3']
        have c1' := s_greatest hB' hM' hHW' (Int32.ofNat 0) hval
        obtain ⟨V', c0', c1'⟩ : ∃ V', F_X11_firstMost 54 25 1 (Int32.ofNat (t_ng A'.1)) (I1', X') = some V' ∧ F_X12_greatest 87 (Int32.ofNat 0) (q_u2 I1' 87 0 0, X') = some V' := ⟨_, c0', c1'⟩
        refine ⟨V', I1', q_u2 I1' 87 0 0, X', ?_, ?_, hv0'⟩
        rotate_left
        · unfold F_X12_all J_X12_all_80
          simp (disch := omega) only [↓ce_87 hB', rf_87 hB', ↓nn_31, ↓nn_33, ↓nn_89, ↓nn_90, ↓nn_91, ↓nn_92, ↓nn_93, ↓nn_94, ↓nn_95, ↓nn_96, ↓nn_97, ↓nn_98, ↓nn_99, ↓nn_100, ↓nn_101, ↓nn_102, ↓nn_103, ↓nn_104, ↓nn_105, ↓nn_106, ↓nn_107, ↓nn_108, p_bs, p_rq0, p_rq1, p_rz0, p_rz1, p_us, p_un, p_uj, ↓reduceIte, n27', v_ng0 hHW', show (Int32.ofNat 0 = 0) = True from by decide, c1']
        · unfold F_X11_all
          simp (disch := omega) only [↓ce_36 hB', rf_36 hB', ↓ce_53 hB', rf_53 hB', ↓ce_63 hB', rf_63 hB', ↓ce_39 hB', rf_39 hB', ↓nn_38, ↓nn_40, ↓nn_41, ↓nn_42, ↓nn_43, ↓nn_44, ↓nn_45, ↓nn_50, ↓nn_52, ↓nn_53, ↓nn_54, ↓nn_55, ↓nn_56, ↓nn_58, ↓nn_64, ↓nn_65, ↓nn_66, ↓nn_67, ↓nn_68, ↓nn_84, p_bs, p_rq0, p_rq1, p_rz0, p_rz1, p_us, p_un, p_uj, ↓reduceIte, h18', t_b0, Bool.true_eq_false, a1', show (Int32.ofNat 0 = 0) = True from by decide, n5', c0']
      · have c0' : F_X11_firstMost 54 13 1 (Int32.ofNat (t_ng A'.1)) (I1', X') = some (Int32.ofNat (yq_am (fun x' y' => decide (I' 54 (13 + x') < I' 54 (13 + y'))) (t_ng A'.1 - 1))) := by
          have := s_firstMost (I' := I1') (a' := 13) (b' := 1) (ct' := t_ng A'.1) (sh_54 hB') (by decide) hng1' hng' (fun i' hi' => by omega)
          rw [e54'] at this
          simp only [Nat.mul_one] at this
          exact this
        have hval : ∀ g', g' < t_ng A'.1 → F_X12_valueOf 87 (Int32.ofNat 1) (Int32.ofNat g') (q_u2 I1' 87 0 0, X') = some (I' 54 (13 + g')) := fun g' hg' => by
          obtain ⟨z1', z2', z3', z4'⟩ := hR1'.1.1 g' (by omega)
          unfold F_X12_valueOf
          simp (disch := omega) only [↓ce_87 hB', rf_87 hB', ↓ce_100 hB', ↓nn_31, ↓nn_33, ↓nn_89, ↓nn_90, ↓nn_91, ↓nn_92, ↓nn_93, ↓nn_94, ↓nn_95, ↓nn_96, ↓nn_97, ↓nn_98, ↓nn_99, ↓nn_100, ↓nn_101, ↓nn_102, ↓nn_103, ↓nn_104, ↓nn_105, ↓nn_106, ↓nn_107, ↓nn_108, p_bs, p_rq0, p_rq1, p_rz0, p_rz1, p_us, p_un, p_uj, ↓reduceIte, show (Int32.ofNat 1 = 0) = False from by decide, show (Int32.ofNat 1 = 1) = True from by decide, p_ar, Nat.add_zero, z1']
        have c1' := s_greatest hB' hM' hHW' (Int32.ofNat 1) hval
        obtain ⟨V', c0', c1'⟩ : ∃ V', F_X11_firstMost 54 13 1 (Int32.ofNat (t_ng A'.1)) (I1', X') = some V' ∧ F_X12_greatest 87 (Int32.ofNat 1) (q_u2 I1' 87 0 0, X') = some V' := ⟨_, c0', c1'⟩
        refine ⟨V', I1', q_u2 I1' 87 0 0, X', ?_, ?_, hv0'⟩
        rotate_left
        · unfold F_X12_all J_X12_all_80
          simp (disch := omega) only [↓ce_87 hB', rf_87 hB', ↓nn_31, ↓nn_33, ↓nn_89, ↓nn_90, ↓nn_91, ↓nn_92, ↓nn_93, ↓nn_94, ↓nn_95, ↓nn_96, ↓nn_97, ↓nn_98, ↓nn_99, ↓nn_100, ↓nn_101, ↓nn_102, ↓nn_103, ↓nn_104, ↓nn_105, ↓nn_106, ↓nn_107, ↓nn_108, p_bs, p_rq0, p_rq1, p_rz0, p_rz1, p_us, p_un, p_uj, ↓reduceIte, n27', v_ng0 hHW', show (Int32.ofNat 1 = 0) = False from by decide, show (Int32.ofNat 1 = 1) = True from by decide, c1']
        · unfold F_X11_all
          simp (disch := omega) only [↓ce_36 hB', rf_36 hB', ↓ce_53 hB', rf_53 hB', ↓ce_63 hB', rf_63 hB', ↓ce_39 hB', rf_39 hB', ↓nn_38, ↓nn_40, ↓nn_41, ↓nn_42, ↓nn_43, ↓nn_44, ↓nn_45, ↓nn_50, ↓nn_52, ↓nn_53, ↓nn_54, ↓nn_55, ↓nn_56, ↓nn_58, ↓nn_64, ↓nn_65, ↓nn_66, ↓nn_67, ↓nn_68, ↓nn_84, p_bs, p_rq0, p_rq1, p_rz0, p_rz1, p_us, p_un, p_uj, ↓reduceIte, h18', t_b0, Bool.true_eq_false, a1', show (Int32.ofNat 1 = 0) = False from by decide, show (Int32.ofNat 1 = 1) = True from by decide, n5', c0']
      · have c0' : F_X11_firstMost 42 3 4 (Int32.ofNat (t_ng A'.1)) (I1', X') = some (Int32.ofNat (yq_am (fun x' y' => decide (t_hg A'.1 (x' * 4 + 3) < t_hg A'.1 (y' * 4 + 3))) (t_ng A'.1 - 1))) := by
          have := s_firstMost (I' := I1') (a' := 3) (b' := 4) (ct' := t_ng A'.1) (sh_42 hB') (by decide) hng1' hng' (fun i' hi' => by omega)
          rw [hHI'.2.2.1] at this
          simp only [Nat.add_comm 3] at this
          exact this
        have hval : ∀ g', g' < t_ng A'.1 → F_X12_valueOf 87 (Int32.ofNat 2) (Int32.ofNat g') (q_u2 I1' 87 0 0, X') = some (t_hg A'.1 (g' * 4 + 3)) := fun g' hg' => by
          have := s_pays hB' hM' hHW' g' hg'
          unfold F_X12_valueOf
          simp (disch := omega) only [↓ce_87 hB', rf_87 hB', ↓nn_31, ↓nn_33, ↓nn_89, ↓nn_90, ↓nn_91, ↓nn_92, ↓nn_93, ↓nn_94, ↓nn_95, ↓nn_96, ↓nn_97, ↓nn_98, ↓nn_99, ↓nn_100, ↓nn_101, ↓nn_102, ↓nn_103, ↓nn_104, ↓nn_105, ↓nn_106, ↓nn_107, ↓nn_108, p_bs, p_rq0, p_rq1, p_rz0, p_rz1, p_us, p_un, p_uj, ↓reduceIte, show (Int32.ofNat 2 = 0) = False from by decide, show (Int32.ofNat 2 = 1) = False from by decide, this]
        have c1' := s_greatest hB' hM' hHW' (Int32.ofNat 2) hval
        obtain ⟨V', c0', c1'⟩ : ∃ V', F_X11_firstMost 42 3 4 (Int32.ofNat (t_ng A'.1)) (I1', X') = some V' ∧ F_X12_greatest 87 (Int32.ofNat 2) (q_u2 I1' 87 0 0, X') = some V' := ⟨_, c0', c1'⟩
        refine ⟨V', I1', q_u2 I1' 87 0 0, X', ?_, ?_, hv0'⟩
        rotate_left
        · unfold F_X12_all J_X12_all_80
          simp (disch := omega) only [↓ce_87 hB', rf_87 hB', ↓nn_31, ↓nn_33, ↓nn_89, ↓nn_90, ↓nn_91, ↓nn_92, ↓nn_93, ↓nn_94, ↓nn_95, ↓nn_96, ↓nn_97, ↓nn_98, ↓nn_99, ↓nn_100, ↓nn_101, ↓nn_102, ↓nn_103, ↓nn_104, ↓nn_105, ↓nn_106, ↓nn_107, ↓nn_108, p_bs, p_rq0, p_rq1, p_rz0, p_rz1, p_us, p_un, p_uj, ↓reduceIte, n27', v_ng0 hHW', show (Int32.ofNat 2 = 0) = False from by decide, show (Int32.ofNat 2 = 1) = False from by decide, show (Int32.ofNat 2 = 2) = True from by decide, c1']
        · unfold F_X11_all
          simp (disch := omega) only [↓ce_36 hB', rf_36 hB', ↓ce_39 hB', rf_39 hB', ↓ce_53 hB', rf_53 hB', ↓ce_63 hB', rf_63 hB', ↓nn_38, ↓nn_40, ↓nn_41, ↓nn_42, ↓nn_43, ↓nn_44, ↓nn_45, ↓nn_50, ↓nn_52, ↓nn_53, ↓nn_54, ↓nn_55, ↓nn_56, ↓nn_58, ↓nn_64, ↓nn_65, ↓nn_66, ↓nn_67, ↓nn_68, ↓nn_84, p_bs, p_rq0, p_rq1, p_rz0, p_rz1, p_us, p_un, p_uj, ↓reduceIte, h18', t_b0, Bool.true_eq_false, a1', show (Int32.ofNat 2 = 0) = False from by decide, show (Int32.ofNat 2 = 1) = False from by decide, show (Int32.ofNat 2 = 2) = True from by decide, n5', c0']
      · have c0' : F_X11_firstMost 41 0 3 (Int32.ofNat (t_nd A'.1)) (I1', X') = some (Int32.ofNat (yq_am (fun x' y' => decide (t_hd A'.1 (x' * 3) < t_hd A'.1 (y' * 3))) (t_nd A'.1 - 1))) := by
          have := s_firstMost (I' := I1') (a' := 0) (b' := 3) (ct' := t_nd A'.1) (sh_41 hB') (by decide) hnd1' (by omega) (fun i' hi' => by omega)
          rw [hHI'.2.1] at this
          simp only [Nat.zero_add] at this
          exact this
        have c1' := s_ofDishM (q' := 3) hB' hM' hHW' w1' hR1' (by omega)
        simp only [↓reduceIte] at c1'
        obtain ⟨V', c0', c1'⟩ : ∃ V', F_X11_firstMost 41 0 3 (Int32.ofNat (t_nd A'.1)) (I1', X') = some V' ∧ F_X12_ofDish 87 (Int32.ofNat 3) (q_u2 I1' 87 0 0, X') = some V' := ⟨_, c0', c1'⟩
        refine ⟨V', I1', q_u2 I1' 87 0 0, X', ?_, ?_, hv0'⟩
        rotate_left
        · unfold F_X12_all J_X12_all_86
          simp (disch := omega) only [↓ce_87 hB', rf_87 hB', ↓nn_31, ↓nn_33, ↓nn_89, ↓nn_90, ↓nn_91, ↓nn_92, ↓nn_93, ↓nn_94, ↓nn_95, ↓nn_96, ↓nn_97, ↓nn_98, ↓nn_99, ↓nn_100, ↓nn_101, ↓nn_102, ↓nn_103, ↓nn_104, ↓nn_105, ↓nn_106, ↓nn_107, ↓nn_108, p_bs, p_rq0, p_rq1, p_rz0, p_rz1, p_us, p_un, p_uj, ↓reduceIte, n27', v_ng0 hHW', show (Int32.ofNat 3 = 0) = False from by decide, show (Int32.ofNat 3 = 1) = False from by decide, show (Int32.ofNat 3 = 2) = False from by decide, show (Int32.ofNat 3 = 3) = True from by decide, c1']
        · unfold F_X11_all
          simp (disch := omega) only [↓ce_36 hB', rf_36 hB', ↓ce_39 hB', rf_39 hB', ↓ce_53 hB', rf_53 hB', ↓ce_63 hB', rf_63 hB', ↓nn_38, ↓nn_40, ↓nn_41, ↓nn_42, ↓nn_43, ↓nn_44, ↓nn_45, ↓nn_50, ↓nn_52, ↓nn_53, ↓nn_54, ↓nn_55, ↓nn_56, ↓nn_58, ↓nn_64, ↓nn_65, ↓nn_66, ↓nn_67, ↓nn_68, ↓nn_84, p_bs, p_rq0, p_rq1, p_rz0, p_rz1, p_us, p_un, p_uj, ↓reduceIte, h18', t_b0, Bool.true_eq_false, a1', show (Int32.ofNat 3 = 0) = False from by decide, show (Int32.ofNat 3 = 1) = False from by decide, show (Int32.ofNat 3 = 2) = False from by decide, show (Int32.ofNat 3 = 3) = True from by decide, n4', c0']
      · have c0' := s_cheapest (I' := I1') hB' hHI' hHW'
        have c1' := s_ofDishM (q' := 4) hB' hM' hHW' w1' hR1' (by omega)
        simp only [show ((4 : Nat) = 3) = False from by decide, ↓reduceIte] at c1'
        obtain ⟨V', c0', c1'⟩ : ∃ V', F_X11_cheapest 36 (I1', X') = some V' ∧ F_X12_ofDish 87 (Int32.ofNat 4) (q_u2 I1' 87 0 0, X') = some V' := ⟨_, c0', c1'⟩
        refine ⟨V', I1', q_u2 I1' 87 0 0, X', ?_, ?_, hv0'⟩
        rotate_left
        · unfold F_X12_all J_X12_all_86
          simp (disch := omega) only [↓ce_87 hB', rf_87 hB', ↓nn_31, ↓nn_33, ↓nn_89, ↓nn_90, ↓nn_91, ↓nn_92, ↓nn_93, ↓nn_94, ↓nn_95, ↓nn_96, ↓nn_97, ↓nn_98, ↓nn_99, ↓nn_100, ↓nn_101, ↓nn_102, ↓nn_103, ↓nn_104, ↓nn_105, ↓nn_106, ↓nn_107, ↓nn_108, p_bs, p_rq0, p_rq1, p_rz0, p_rz1, p_us, p_un, p_uj, ↓reduceIte, n27', v_ng0 hHW', show (Int32.ofNat 4 = 0) = False from by decide, show (Int32.ofNat 4 = 1) = False from by decide, show (Int32.ofNat 4 = 2) = False from by decide, show (Int32.ofNat 4 = 3) = False from by decide, show (Int32.ofNat 4 = 4) = True from by decide, c1']
        · unfold F_X11_all
          simp (disch := omega) only [↓ce_36 hB', rf_36 hB', ↓ce_53 hB', rf_53 hB', ↓ce_63 hB', rf_63 hB', ↓nn_38, ↓nn_40, ↓nn_45, ↓nn_50, ↓nn_52, ↓nn_53, ↓nn_54, ↓nn_55, ↓nn_56, ↓nn_58, ↓nn_64, ↓nn_65, ↓nn_66, ↓nn_67, ↓nn_68, ↓nn_84, p_bs, p_rq0, p_rq1, p_rz0, p_rz1, p_us, p_un, p_uj, ↓reduceIte, h18', t_b0, Bool.true_eq_false, a1', show (Int32.ofNat 4 = 0) = False from by decide, show (Int32.ofNat 4 = 1) = False from by decide, show (Int32.ofNat 4 = 2) = False from by decide, show (Int32.ofNat 4 = 3) = False from by decide, show (Int32.ofNat 4 = 4) = True from by decide, c0']
      · have c0' := s_mostLiked (I' := I1') hB' hHI' hHW'
        rw [e54'] at c0'
        have c1' := s_ofDishM (q' := 5) hB' hM' hHW' w1' hR1' (by omega)
        simp only [show ((5 : Nat) = 3) = False from by decide, show ((5 : Nat) = 4) = False from by decide, ↓reduceIte] at c1'
        obtain ⟨V', c0', c1'⟩ : ∃ V', F_X11_mostLiked 36 (I1', X') = some V' ∧ F_X12_ofDish 87 (Int32.ofNat 5) (q_u2 I1' 87 0 0, X') = some V' := ⟨_, c0', c1'⟩
        refine ⟨V', I1', q_u2 I1' 87 0 0, X', ?_, ?_, hv0'⟩
        rotate_left
        · unfold F_X12_all J_X12_all_86
          simp (disch := omega) only [↓ce_87 hB', rf_87 hB', ↓nn_31, ↓nn_33, ↓nn_89, ↓nn_90, ↓nn_91, ↓nn_92, ↓nn_93, ↓nn_94, ↓nn_95, ↓nn_96, ↓nn_97, ↓nn_98, ↓nn_99, ↓nn_100, ↓nn_101, ↓nn_102, ↓nn_103, ↓nn_104, ↓nn_105, ↓nn_106, ↓nn_107, ↓nn_108, p_bs, p_rq0, p_rq1, p_rz0, p_rz1, p_us, p_un, p_uj, ↓reduceIte, n27', v_ng0 hHW', show (Int32.ofNat 5 = 0) = False from by decide, show (Int32.ofNat 5 = 1) = False from by decide, show (Int32.ofNat 5 = 2) = False from by decide, show (Int32.ofNat 5 = 3) = False from by decide, show (Int32.ofNat 5 = 4) = False from by decide, show (Int32.ofNat 5 = 5) = True from by decide, c1']
        · unfold F_X11_all
          simp (disch := omega) only [↓ce_36 hB', rf_36 hB', ↓ce_53 hB', rf_53 hB', ↓ce_63 hB', rf_63 hB', ↓nn_38, ↓nn_40, ↓nn_45, ↓nn_50, ↓nn_52, ↓nn_53, ↓nn_54, ↓nn_55, ↓nn_56, ↓nn_58, ↓nn_64, ↓nn_65, ↓nn_66, ↓nn_67, ↓nn_68, ↓nn_84, p_bs, p_rq0, p_rq1, p_rz0, p_rz1, p_us, p_un, p_uj, ↓reduceIte, h18', t_b0, Bool.true_eq_false, a1', show (Int32.ofNat 5 = 0) = False from by decide, show (Int32.ofNat 5 = 1) = False from by decide, show (Int32.ofNat 5 = 2) = False from by decide, show (Int32.ofNat 5 = 3) = False from by decide, show (Int32.ofNat 5 = 4) = False from by decide, show (Int32.ofNat 5 = 5) = True from by decide, c0']
      · have v11' := a3''.2.2.2.2.2.2.2.1
        obtain ⟨J', u', b1', b2', b3', b4'⟩ := s_goOn (I' := q_u2 I1' 87 0 0) (H' := A'.1) (L' := L') (s' := I' 54) hB' hS1' hM' hHW' w1' hR1' hLM1' w3' 0 (by omega)
        have b1'' : F_X12_goOn 87 0 (q_u2 I1' 87 0 0, X') = some ((), (J', p_T X' u')) := b1'
        have hB'' := p_BT hB' u'
        have hMJ' : t_HM A'.1 J' := t_HMk hM' (b2' 92 (by decide) (by decide) (by decide) (by decide)) (b2' 94 (by decide) (by decide) (by decide) (by decide)) (b2' 96 (by decide) (by decide) (by decide) (by decide)) (b3' 26 (by omega)) (b3' 27 (by omega))
        obtain ⟨K', k1', k2', k3', k4', k5'⟩ := s_goTable (X' := p_T X' u') (I' := J') (c' := 101) (s' := I' 54) hB'' hMJ' hHW' w1' (.inr rfl) b4' w3' (by omega)
        have hvK' : v_V A' K' (p_T X' u') := v_ask h' (I1' := I1') (fun c' z1' z2' z3' z4' z5' => a2' c' z1' z2') (fun c' z1' z2' z3' z4' => by rw [k2' c' z1' z3' z4', b2' c' z1' z2' z3' z4', p_uc _ _ _ _ _ z1']) (fun j' z1' z2' => by rw [k3' j' (by omega) (by omega) (by omega) (by omega), b3' j' z1', p_uj _ _ _ _ _ z2'])
        have m4' := k4'.2.2.2.1
        refine ⟨Int32.ofNat (t_r A'.1 (I' 54) (t_ng A'.1)).1, I1', K', p_T X' u', ?_, ?_, hvK'⟩
        · unfold F_X11_all
          simp (disch := omega) only [↓ce_36 hB', rf_36 hB', ↓ce_53 hB', rf_53 hB', ↓ce_63 hB', rf_63 hB', ↓nn_38, ↓nn_40, ↓nn_45, ↓nn_50, ↓nn_52, ↓nn_53, ↓nn_54, ↓nn_55, ↓nn_56, ↓nn_58, ↓nn_64, ↓nn_65, ↓nn_66, ↓nn_67, ↓nn_68, ↓nn_84, p_bs, p_rq0, p_rq1, p_rz0, p_rz1, p_us, p_un, p_uj, ↓reduceIte, h18', t_b0, Bool.true_eq_false, a1', show (Int32.ofNat 6 = 0) = False from by decide, show (Int32.ofNat 6 = 1) = False from by decide, show (Int32.ofNat 6 = 2) = False from by decide, show (Int32.ofNat 6 = 3) = False from by decide, show (Int32.ofNat 6 = 4) = False from by decide, show (Int32.ofNat 6 = 5) = False from by decide, show (Int32.ofNat 6 = 6) = True from by decide, v11']
        · unfold F_X12_all F_X12_tableNow
          simp (disch := omega) only [↓ce_87 hB', rf_87 hB', ↓nn_31, ↓nn_33, ↓nn_89, ↓nn_90, ↓nn_91, ↓nn_92, ↓nn_93, ↓nn_94, ↓nn_95, ↓nn_96, ↓nn_97, ↓nn_98, ↓nn_99, ↓nn_100, ↓nn_101, ↓nn_102, ↓nn_103, ↓nn_104, ↓nn_105, ↓nn_106, ↓nn_107, ↓nn_108, p_bs, p_rq0, p_rq1, p_rz0, p_rz1, p_us, p_un, p_uj, ↓reduceIte, n27', v_ng0 hHW', show (Int32.ofNat 6 = 0) = False from by decide, show (Int32.ofNat 6 = 1) = False from by decide, show (Int32.ofNat 6 = 2) = False from by decide, show (Int32.ofNat 6 = 3) = False from by decide, show (Int32.ofNat 6 = 4) = False from by decide, show (Int32.ofNat 6 = 5) = False from by decide, show (Int32.ofNat 6 = 6) = True from by decide, b1'']
          have hB' := hB''
          simp (disch := omega) only [↓ce_87 hB', rf_87 hB', ↓nn_31, ↓nn_33, ↓nn_89, ↓nn_90, ↓nn_91, ↓nn_92, ↓nn_93, ↓nn_94, ↓nn_95, ↓nn_96, ↓nn_97, ↓nn_98, ↓nn_99, ↓nn_100, ↓nn_101, ↓nn_102, ↓nn_103, ↓nn_104, ↓nn_105, ↓nn_106, ↓nn_107, ↓nn_108, p_bs, p_rq0, p_rq1, p_rz0, p_rz1, p_us, p_un, p_uj, ↓reduceIte, k1', m4']
      · have c0' := s_lastDay (I' := I1') hB' hHI' hHW'
        rw [e54'] at c0'
        have c1' := s_mlast hB' hM' hHW' hR1'
        obtain ⟨V', c0', c1'⟩ : ∃ V', F_X11_lastDay 36 (I1', X') = some V' ∧ F_X12_last 87 (q_u2 I1' 87 0 0, X') = some V' := ⟨_, c0', c1'⟩
        refine ⟨V', I1', q_u2 I1' 87 0 0, X', ?_, ?_, hv0'⟩
        rotate_left
        · unfold F_X12_all
          simp (disch := omega) only [↓ce_87 hB', rf_87 hB', ↓nn_31, ↓nn_33, ↓nn_89, ↓nn_90, ↓nn_91, ↓nn_92, ↓nn_93, ↓nn_94, ↓nn_95, ↓nn_96, ↓nn_97, ↓nn_98, ↓nn_99, ↓nn_100, ↓nn_101, ↓nn_102, ↓nn_103, ↓nn_104, ↓nn_105, ↓nn_106, ↓nn_107, ↓nn_108, p_bs, p_rq0, p_rq1, p_rz0, p_rz1, p_us, p_un, p_uj, ↓reduceIte, n27', v_ng0 hHW', show (Int32.ofNat 7 = 0) = False from by decide, show (Int32.ofNat 7 = 1) = False from by decide, show (Int32.ofNat 7 = 2) = False from by decide, show (Int32.ofNat 7 = 3) = False from by decide, show (Int32.ofNat 7 = 4) = False from by decide, show (Int32.ofNat 7 = 5) = False from by decide, show (Int32.ofNat 7 = 6) = False from by decide, show (Int32.ofNat 7 = 7) = True from by decide, c1']
        · unfold F_X11_all
          simp (disch := omega) only [↓ce_36 hB', rf_36 hB', ↓ce_53 hB', rf_53 hB', ↓ce_63 hB', rf_63 hB', ↓nn_38, ↓nn_40, ↓nn_45, ↓nn_50, ↓nn_52, ↓nn_53, ↓nn_54, ↓nn_55, ↓nn_56, ↓nn_58, ↓nn_64, ↓nn_65, ↓nn_66, ↓nn_67, ↓nn_68, ↓nn_84, p_bs, p_rq0, p_rq1, p_rz0, p_rz1, p_us, p_un, p_uj, ↓reduceIte, h18', t_b0, Bool.true_eq_false, a1', show (Int32.ofNat 7 = 0) = False from by decide, show (Int32.ofNat 7 = 1) = False from by decide, show (Int32.ofNat 7 = 2) = False from by decide, show (Int32.ofNat 7 = 3) = False from by decide, show (Int32.ofNat 7 = 4) = False from by decide, show (Int32.ofNat 7 = 5) = False from by decide, show (Int32.ofNat 7 = 6) = False from by decide, show (Int32.ofNat 7 = 7) = True from by decide, c0']
      · have c0' := s_takings (I' := I1') hB' hHI' hHW'
        rw [e54'] at c0'
        have c1' := s_mtakes hB' hM' hHW' w1' hR1'
        obtain ⟨V', c0', c1'⟩ : ∃ V', F_X11_takings 36 (I1', X') = some V' ∧ F_X12_takes_ 87 (q_u2 I1' 87 0 0, X') = some V' := ⟨_, c0', c1'⟩
        refine ⟨V', I1', q_u2 I1' 87 0 0, X', ?_, ?_, hv0'⟩
        rotate_left
        · unfold F_X12_all
          simp (disch := omega) only [↓ce_87 hB', rf_87 hB', ↓nn_31, ↓nn_33, ↓nn_89, ↓nn_90, ↓nn_91, ↓nn_92, ↓nn_93, ↓nn_94, ↓nn_95, ↓nn_96, ↓nn_97, ↓nn_98, ↓nn_99, ↓nn_100, ↓nn_101, ↓nn_102, ↓nn_103, ↓nn_104, ↓nn_105, ↓nn_106, ↓nn_107, ↓nn_108, p_bs, p_rq0, p_rq1, p_rz0, p_rz1, p_us, p_un, p_uj, ↓reduceIte, n27', v_ng0 hHW', show (Int32.ofNat 8 = 0) = False from by decide, show (Int32.ofNat 8 = 1) = False from by decide, show (Int32.ofNat 8 = 2) = False from by decide, show (Int32.ofNat 8 = 3) = False from by decide, show (Int32.ofNat 8 = 4) = False from by decide, show (Int32.ofNat 8 = 5) = False from by decide, show (Int32.ofNat 8 = 6) = False from by decide, show (Int32.ofNat 8 = 7) = False from by decide, show (Int32.ofNat 8 = 8) = True from by decide, c1']
        · unfold F_X11_all
          simp (disch := omega) only [↓ce_36 hB', rf_36 hB', ↓ce_53 hB', rf_53 hB', ↓ce_63 hB', rf_63 hB', ↓nn_38, ↓nn_40, ↓nn_45, ↓nn_50, ↓nn_52, ↓nn_53, ↓nn_54, ↓nn_55, ↓nn_56, ↓nn_58, ↓nn_64, ↓nn_65, ↓nn_66, ↓nn_67, ↓nn_68, ↓nn_84, p_bs, p_rq0, p_rq1, p_rz0, p_rz1, p_us, p_un, p_uj, ↓reduceIte, h18', t_b0, Bool.true_eq_false, a1', show (Int32.ofNat 8 = 0) = False from by decide, show (Int32.ofNat 8 = 1) = False from by decide, show (Int32.ofNat 8 = 2) = False from by decide, show (Int32.ofNat 8 = 3) = False from by decide, show (Int32.ofNat 8 = 4) = False from by decide, show (Int32.ofNat 8 = 5) = False from by decide, show (Int32.ofNat 8 = 6) = False from by decide, show (Int32.ofNat 8 = 7) = False from by decide, show (Int32.ofNat 8 = 8) = True from by decide, c0']
      · have v5' := a3''.2.1
        have c1' := s_cooks (c' := 100) hB' hM' hHW' w1' (.inl rfl) hR1'.1
        refine ⟨t_ck A'.1 (I' 54), I1', _, X', ?_, ?_, hv0'⟩
        · unfold F_X11_all
          simp (disch := omega) only [↓ce_36 hB', rf_36 hB', ↓ce_53 hB', rf_53 hB', ↓ce_63 hB', rf_63 hB', ↓nn_38, ↓nn_40, ↓nn_45, ↓nn_50, ↓nn_52, ↓nn_53, ↓nn_54, ↓nn_55, ↓nn_56, ↓nn_58, ↓nn_64, ↓nn_65, ↓nn_66, ↓nn_67, ↓nn_68, ↓nn_84, p_bs, p_rq0, p_rq1, p_rz0, p_rz1, p_us, p_un, p_uj, ↓reduceIte, h18', t_b0, Bool.true_eq_false, a1', show (Int32.ofNat 9 = 0) = False from by decide, show (Int32.ofNat 9 = 1) = False from by decide, show (Int32.ofNat 9 = 2) = False from by decide, show (Int32.ofNat 9 = 3) = False from by decide, show (Int32.ofNat 9 = 4) = False from by decide, show (Int32.ofNat 9 = 5) = False from by decide, show (Int32.ofNat 9 = 6) = False from by decide, show (Int32.ofNat 9 = 7) = False from by decide, show (Int32.ofNat 9 = 8) = False from by decide, show (Int32.ofNat 9 = 9) = True from by decide, v5']
        · unfold F_X12_all
          simp (disch := omega) only [↓ce_87 hB', rf_87 hB', ↓nn_31, ↓nn_33, ↓nn_89, ↓nn_90, ↓nn_91, ↓nn_92, ↓nn_93, ↓nn_94, ↓nn_95, ↓nn_96, ↓nn_97, ↓nn_98, ↓nn_99, ↓nn_100, ↓nn_101, ↓nn_102, ↓nn_103, ↓nn_104, ↓nn_105, ↓nn_106, ↓nn_107, ↓nn_108, p_bs, p_rq0, p_rq1, p_rz0, p_rz1, p_us, p_un, p_uj, ↓reduceIte, n27', v_ng0 hHW', show (Int32.ofNat 9 = 0) = False from by decide, show (Int32.ofNat 9 = 1) = False from by decide, show (Int32.ofNat 9 = 2) = False from by decide, show (Int32.ofNat 9 = 3) = False from by decide, show (Int32.ofNat 9 = 4) = False from by decide, show (Int32.ofNat 9 = 5) = False from by decide, show (Int32.ofNat 9 = 6) = False from by decide, show (Int32.ofNat 9 = 7) = False from by decide, show (Int32.ofNat 9 = 8) = False from by decide, show (Int32.ofNat 9 = 9) = True from by decide, c1']
      · have v4' := a3''.1
        have v10' := a3''.2.2.2.2.2.2.1
        obtain ⟨J', u', b1', b2', b3', b4'⟩ := s_goOn (I' := q_u2 I1' 87 0 0) (H' := A'.1) (L' := L') (s' := I' 54) hB' hS1' hM' hHW' w1' hR1' hLM1' w3' 0 (by omega)
        have b1'' : F_X12_goOn 87 0 (q_u2 I1' 87 0 0, X') = some ((), (J', p_T X' u')) := b1'
        have hB'' := p_BT hB' u'
        have hMJ' : t_HM A'.1 J' := t_HMk hM' (b2' 92 (by decide) (by decide) (by decide) (by decide)) (b2' 94 (by decide) (by decide) (by decide) (by decide)) (b2' 96 (by decide) (by decide) (by decide) (by decide)) (b3' 26 (by omega)) (b3' 27 (by omega))
        obtain ⟨K', k1', k2', k3', k4', k5'⟩ := s_goTable (X' := p_T X' u') (I' := J') (c' := 101) (s' := I' 54) hB'' hMJ' hHW' w1' (.inr rfl) b4' w3' (by omega)
        have hvK' : v_V A' K' (p_T X' u') := v_ask h' (I1' := I1') (fun c' z1' z2' z3' z4' z5' => a2' c' z1' z2') (fun c' z1' z2' z3' z4' => by rw [k2' c' z1' z3' z4', b2' c' z1' z2' z3' z4', p_uc _ _ _ _ _ z1']) (fun j' z1' z2' => by rw [k3' j' (by omega) (by omega) (by omega) (by omega), b3' j' z1', p_uj _ _ _ _ _ z2'])
        have hMK' : t_HM A'.1 K' := t_HMk hMJ' (k2' 92 (by decide) (by decide) (by decide)) (k2' 94 (by decide) (by decide) (by decide)) (k2' 96 (by decide) (by decide) (by decide)) (k3' 26 (by omega) (by omega) (by omega) (by omega)) (k3' 27 (by omega) (by omega) (by omega) (by omega))
        have c1' := s_thereBits (X' := p_T X' u') (I' := K') (c' := 100) hB'' hMK' hHW' w1' (.inl rfl) (by rw [k2' 100 (by decide) (by decide) (by decide), b2' 100 (by decide) (by decide) (by decide) (by decide)]; exact hR1'.1)
        have c2' := s_fedBits (X' := p_T X' u') (I' := K') (s' := I' 54) hB'' hMK' hHW' k4'.2.2.2.2
        refine ⟨t_B (t_tp A'.1 (I' 54)) &&& (t_B (t_fd A'.1 (I' 54)) ^^^ (-1 : Int32)), I1', K', p_T X' u', ?_, ?_, hvK'⟩
        · unfold F_X11_all
          simp (disch := omega) only [↓ce_36 hB', rf_36 hB', ↓ce_53 hB', rf_53 hB', ↓ce_63 hB', rf_63 hB', ↓nn_38, ↓nn_40, ↓nn_45, ↓nn_50, ↓nn_52, ↓nn_53, ↓nn_54, ↓nn_55, ↓nn_56, ↓nn_58, ↓nn_64, ↓nn_65, ↓nn_66, ↓nn_67, ↓nn_68, ↓nn_84, p_bs, p_rq0, p_rq1, p_rz0, p_rz1, p_us, p_un, p_uj, ↓reduceIte, h18', t_b0, Bool.true_eq_false, a1', show (Int32.ofNat 10 = 0) = False from by decide, show (Int32.ofNat 10 = 1) = False from by decide, show (Int32.ofNat 10 = 2) = False from by decide, show (Int32.ofNat 10 = 3) = False from by decide, show (Int32.ofNat 10 = 4) = False from by decide, show (Int32.ofNat 10 = 5) = False from by decide, show (Int32.ofNat 10 = 6) = False from by decide, show (Int32.ofNat 10 = 7) = False from by decide, show (Int32.ofNat 10 = 8) = False from by decide, show (Int32.ofNat 10 = 9) = False from by decide, show (Int32.ofNat 10 = 10) = True from by decide, v4', v10']
        · unfold F_X12_all F_X12_tableNow
          simp (disch := omega) only [↓ce_87 hB', rf_87 hB', ↓nn_31, ↓nn_33, ↓nn_89, ↓nn_90, ↓nn_91, ↓nn_92, ↓nn_93, ↓nn_94, ↓nn_95, ↓nn_96, ↓nn_97, ↓nn_98, ↓nn_99, ↓nn_100, ↓nn_101, ↓nn_102, ↓nn_103, ↓nn_104, ↓nn_105, ↓nn_106, ↓nn_107, ↓nn_108, p_bs, p_rq0, p_rq1, p_rz0, p_rz1, p_us, p_un, p_uj, ↓reduceIte, n27', v_ng0 hHW', show (Int32.ofNat 10 = 0) = False from by decide, show (Int32.ofNat 10 = 1) = False from by decide, show (Int32.ofNat 10 = 2) = False from by decide, show (Int32.ofNat 10 = 3) = False from by decide, show (Int32.ofNat 10 = 4) = False from by decide, show (Int32.ofNat 10 = 5) = False from by decide, show (Int32.ofNat 10 = 6) = False from by decide, show (Int32.ofNat 10 = 7) = False from by decide, show (Int32.ofNat 10 = 8) = False from by decide, show (Int32.ofNat 10 = 9) = False from by decide, show (Int32.ofNat 10 = 10) = True from by decide, b1'']
          have hB' := hB''
          simp (disch := omega) only [↓ce_87 hB', rf_87 hB', ↓nn_31, ↓nn_33, ↓nn_89, ↓nn_90, ↓nn_91, ↓nn_92, ↓nn_93, ↓nn_94, ↓nn_95, ↓nn_96, ↓nn_97, ↓nn_98, ↓nn_99, ↓nn_100, ↓nn_101, ↓nn_102, ↓nn_103, ↓nn_104, ↓nn_105, ↓nn_106, ↓nn_107, ↓nn_108, p_bs, p_rq0, p_rq1, p_rz0, p_rz1, p_us, p_un, p_uj, ↓reduceIte, k1', c1', c2']
      · skip
        obtain ⟨J1', c1', c2', c3'⟩ := s_copyFrom (I' := I1') (k1' := 68) (k2' := 53) hB' (by omega) (by omega)
        have c2'' : ∀ c', c' ≠ 69 → J1' c' = I1' c' := c2'
        have c3'' : ∀ j', j' < 31 → J1' 69 j' = I' 54 j' := fun j' hj' => by rw [← e54']; exact c3' j' hj'
        obtain ⟨I2', d1', d2'⟩ := s_mustC (I' := J1') (L' := L') hB' (t_HIk hHI' (fun c' h1' h2' => c2'' c' (by omega))) hHW' (t_LCk hLC' (fun c' h1' h2' => by rw [c2'' c' (by omega)]; exact a2' c' (by omega) (by omega))) (t_WFa w1' c3'') (D' := A'.2.2.1) (by rw [c3'' 0 (by decide)]; exact w3') w4'
        generalize hs' : J1' 69 = s' at c3'' d1'
        have fI' : ∀ c', c' ≠ 63 → c' ≠ 64 → c' ≠ 65 → c' ≠ p_sc X' → c' ≠ 69 → I2' c' = I' c' := fun c' z1' z2' z3' z4' z5' => by rw [d2' c' z1' z2' z3' z4' z5', c2'' c' z5']; exact a2' c' z1' z2'
        have fI1' : ∀ c', 70 ≤ c' → c' < 109 → I2' c' = I' c' := fun c' z1' z2' => fI' c' (by omega) (by omega) (by omega) (by omega) (by omega)
        obtain ⟨J2', x1', x2', x3', x4'⟩ := s_mcopy (I' := q_u2 I2' 87 0 0) hB'
        have g1' : ∀ c', 70 ≤ c' → c' < 109 → c' ≠ 87 → c' ≠ 101 → J2' c' = I' c' := fun c' z1' z2' z3' z4' => by rw [x2' c' z4', p_uc _ _ _ _ _ z3']; exact fI1' c' z1' z2'
        have g87' : ∀ j', j' ≠ 0 → J2' 87 j' = I' 87 j' := fun j' hj' => by rw [x2' 87 (by decide), p_uj _ _ _ _ _ hj', fI1' 87 (by decide) (by decide)]
        have hM2' : t_HM A'.1 J2' := v_hm h' (g1' 92 (by decide) (by decide) (by decide) (by decide)) (g1' 94 (by decide) (by decide) (by decide) (by decide)) (g1' 96 (by decide) (by decide) (by decide) (by decide)) (g87' 26 (by decide)) (g87' 27 (by decide))
        have e101 : ∀ j', j' < 36 → J2' 101 j' = I' 100 j' := fun j' hj' => by rw [x3' j' hj', p_uc _ _ _ _ _ (by decide), fI1' 100 (by decide) (by decide)]
        obtain ⟨J', u', y1', y2', y3'⟩ := s_mustM (I' := J2') (H' := A'.1) (L' := L') (s' := s') hB' (fun c' hc' => by rw [x2' c' (by omega), p_uc _ _ _ _ _ (by omega), fI' c' (by omega) (by omega) (by omega) (by omega) (by omega)]; exact hS' c' hc') hM2' hHW' (t_WFa w1' c3'') (t_RSa w2' c3'' e101) ⟨0, by omega, x4'⟩ (t_LMk hLM' (g87' 34 (by decide)) (g1' 89 (by decide) (by decide) (by decide) (by decide)) (g1' 90 (by decide) (by decide) (by decide) (by decide))) (D' := A'.2.2.1) (by rw [c3'' 0 (by decide)]; exact w3') w4'
        have m27' : q_u2 I2' 87 0 0 87 27 = Int32.ofNat (t_ng A'.1) := by rw [p_uj _ _ _ _ _ (by decide), fI1' 87 (by decide) (by decide)]; exact hH'.2.2.1.2.2.2.2
        have hvJ' : v_V A' J' (p_T X' u') := v_ask h' fI' (fun c' z1' z2' z3' z4' => by rw [y2' c' z1' z2' z3' z4', x2' c' z4', p_uc _ _ _ _ _ z1']) (fun j' z1' z2' => by rw [y3' j' z1', x2' 87 (by decide), p_uj _ _ _ _ _ z2'])
        refine ⟨t_or (t_fi (yq_mu A'.1 L' s') 61 0), I2', J', p_T X' u', ?_, ?_, hvJ'⟩
        · unfold F_X11_all F_X2_daysToNothing
          simp (disch := omega) only [↓ce_36 hB', rf_36 hB', ↓ce_53 hB', rf_53 hB', ↓ce_63 hB', rf_63 hB', ↓ce_67 hB', rf_67 hB', ↓ce_68 hB', rf_68 hB', ↓nn_38, ↓nn_40, ↓nn_45, ↓nn_50, ↓nn_52, ↓nn_53, ↓nn_54, ↓nn_55, ↓nn_56, ↓nn_58, ↓nn_64, ↓nn_65, ↓nn_66, ↓nn_67, ↓nn_68, ↓nn_69, ↓nn_70, ↓nn_71, ↓nn_72, ↓nn_73, ↓nn_84, p_bs, p_rq0, p_rq1, p_rz0, p_rz1, p_us, p_un, p_uj, ↓reduceIte, h18', t_b0, Bool.true_eq_false, a1', show (Int32.ofNat 11 = 0) = False from by decide, show (Int32.ofNat 11 = 1) = False from by decide, show (Int32.ofNat 11 = 2) = False from by decide, show (Int32.ofNat 11 = 3) = False from by decide, show (Int32.ofNat 11 = 4) = False from by decide, show (Int32.ofNat 11 = 5) = False from by decide, show (Int32.ofNat 11 = 6) = False from by decide, show (Int32.ofNat 11 = 7) = False from by decide, show (Int32.ofNat 11 = 8) = False from by decide, show (Int32.ofNat 11 = 9) = False from by decide, show (Int32.ofNat 11 = 10) = False from by decide, show (Int32.ofNat 11 = 11) = True from by decide, c1', d1']
          cases t_fi (yq_mu A'.1 L' s') 61 0 <;> rfl
        · unfold F_X12_all F_X12_mustard
          simp (disch := omega) only [↓ce_87 hB', rf_87 hB', ↓nn_31, ↓nn_33, ↓nn_89, ↓nn_90, ↓nn_91, ↓nn_92, ↓nn_93, ↓nn_94, ↓nn_95, ↓nn_96, ↓nn_97, ↓nn_98, ↓nn_99, ↓nn_100, ↓nn_101, ↓nn_102, ↓nn_103, ↓nn_104, ↓nn_105, ↓nn_106, ↓nn_107, ↓nn_108, p_bs, p_rq0, p_rq1, p_rz0, p_rz1, p_us, p_un, p_uj, ↓reduceIte, m27', v_ng0 hHW', show (Int32.ofNat 11 = 0) = False from by decide, show (Int32.ofNat 11 = 1) = False from by decide, show (Int32.ofNat 11 = 2) = False from by decide, show (Int32.ofNat 11 = 3) = False from by decide, show (Int32.ofNat 11 = 4) = False from by decide, show (Int32.ofNat 11 = 5) = False from by decide, show (Int32.ofNat 11 = 6) = False from by decide, show (Int32.ofNat 11 = 7) = False from by decide, show (Int32.ofNat 11 = 8) = False from by decide, show (Int32.ofNat 11 = 9) = False from by decide, show (Int32.ofNat 11 = 10) = False from by decide, show (Int32.ofNat 11 = 11) = True from by decide, x1', y1']
          cases t_fi (yq_mu A'.1 L' s') 61 0 <;> rfl
      · skip
        obtain ⟨J1', c1', c2', c3'⟩ := s_copyFrom (I' := I1') (k1' := 68) (k2' := 53) hB' (by omega) (by omega)
        have c2'' : ∀ c', c' ≠ 69 → J1' c' = I1' c' := c2'
        have c3'' : ∀ j', j' < 31 → J1' 69 j' = I' 54 j' := fun j' hj' => by rw [← e54']; exact c3' j' hj'
        obtain ⟨I2', d1', d2'⟩ := s_fullC (I' := J1') (L' := L') hB' (t_HIk hHI' (fun c' h1' h2' => c2'' c' (by omega))) hHW' (t_LCk hLC' (fun c' h1' h2' => by rw [c2'' c' (by omega)]; exact a2' c' (by omega) (by omega))) (t_WFa w1' c3'') (D' := A'.2.2.1) (by rw [c3'' 0 (by decide)]; exact w3') w4'
        generalize hs' : J1' 69 = s' at c3'' d1'
        have fI' : ∀ c', c' ≠ 63 → c' ≠ 64 → c' ≠ 65 → c' ≠ p_sc X' → c' ≠ 69 → I2' c' = I' c' := fun c' z1' z2' z3' z4' z5' => by rw [d2' c' z1' z2' z3' z4' z5', c2'' c' z5']; exact a2' c' z1' z2'
        have fI1' : ∀ c', 70 ≤ c' → c' < 109 → I2' c' = I' c' := fun c' z1' z2' => fI' c' (by omega) (by omega) (by omega) (by omega) (by omega)
        obtain ⟨J2', x1', x2', x3', x4'⟩ := s_mcopy (I' := q_u2 I2' 87 0 0) hB'
        have g1' : ∀ c', 70 ≤ c' → c' < 109 → c' ≠ 87 → c' ≠ 101 → J2' c' = I' c' := fun c' z1' z2' z3' z4' => by rw [x2' c' z4', p_uc _ _ _ _ _ z3']; exact fI1' c' z1' z2'
        have g87' : ∀ j', j' ≠ 0 → J2' 87 j' = I' 87 j' := fun j' hj' => by rw [x2' 87 (by decide), p_uj _ _ _ _ _ hj', fI1' 87 (by decide) (by decide)]
        have hM2' : t_HM A'.1 J2' := v_hm h' (g1' 92 (by decide) (by decide) (by decide) (by decide)) (g1' 94 (by decide) (by decide) (by decide) (by decide)) (g1' 96 (by decide) (by decide) (by decide) (by decide)) (g87' 26 (by decide)) (g87' 27 (by decide))
        have e101 : ∀ j', j' < 36 → J2' 101 j' = I' 100 j' := fun j' hj' => by rw [x3' j' hj', p_uc _ _ _ _ _ (by decide), fI1' 100 (by decide) (by decide)]
        obtain ⟨J', u', y1', y2', y3'⟩ := s_fullM (I' := J2') (H' := A'.1) (L' := L') (s' := s') hB' (fun c' hc' => by rw [x2' c' (by omega), p_uc _ _ _ _ _ (by omega), fI' c' (by omega) (by omega) (by omega) (by omega) (by omega)]; exact hS' c' hc') hM2' hHW' (t_WFa w1' c3'') (t_RSa w2' c3'' e101) ⟨0, by omega, x4'⟩ (t_LMk hLM' (g87' 34 (by decide)) (g1' 89 (by decide) (by decide) (by decide) (by decide)) (g1' 90 (by decide) (by decide) (by decide) (by decide))) (D' := A'.2.2.1) (by rw [c3'' 0 (by decide)]; exact w3') w4'
        have m27' : q_u2 I2' 87 0 0 87 27 = Int32.ofNat (t_ng A'.1) := by rw [p_uj _ _ _ _ _ (by decide), fI1' 87 (by decide) (by decide)]; exact hH'.2.2.1.2.2.2.2
        have hvJ' : v_V A' J' (p_T X' u') := v_ask h' fI' (fun c' z1' z2' z3' z4' => by rw [y2' c' z1' z2' z3' z4', x2' c' z4', p_uc _ _ _ _ _ z1']) (fun j' z1' z2' => by rw [y3' j' z1', x2' 87 (by decide), p_uj _ _ _ _ _ z2'])
        refine ⟨Int32.ofNat (yq_am (yq_fu A'.1 L' s') 19), I2', J', p_T X' u', ?_, ?_, hvJ'⟩
        · unfold F_X11_all F_X2_fullestDay
          simp (disch := omega) only [↓ce_36 hB', rf_36 hB', ↓ce_53 hB', rf_53 hB', ↓ce_63 hB', rf_63 hB', ↓ce_67 hB', rf_67 hB', ↓ce_68 hB', rf_68 hB', ↓nn_38, ↓nn_40, ↓nn_45, ↓nn_50, ↓nn_52, ↓nn_53, ↓nn_54, ↓nn_55, ↓nn_56, ↓nn_58, ↓nn_64, ↓nn_65, ↓nn_66, ↓nn_67, ↓nn_68, ↓nn_69, ↓nn_70, ↓nn_71, ↓nn_72, ↓nn_73, ↓nn_84, p_bs, p_rq0, p_rq1, p_rz0, p_rz1, p_us, p_un, p_uj, ↓reduceIte, h18', t_b0, Bool.true_eq_false, a1', show (Int32.ofNat 12 = 0) = False from by decide, show (Int32.ofNat 12 = 1) = False from by decide, show (Int32.ofNat 12 = 2) = False from by decide, show (Int32.ofNat 12 = 3) = False from by decide, show (Int32.ofNat 12 = 4) = False from by decide, show (Int32.ofNat 12 = 5) = False from by decide, show (Int32.ofNat 12 = 6) = False from by decide, show (Int32.ofNat 12 = 7) = False from by decide, show (Int32.ofNat 12 = 8) = False from by decide, show (Int32.ofNat 12 = 9) = False from by decide, show (Int32.ofNat 12 = 10) = False from by decide, show (Int32.ofNat 12 = 11) = False from by decide, show (Int32.ofNat 12 = 12) = True from by decide, c1', d1']
        · unfold F_X12_all F_X12_fullest
          simp (disch := omega) only [↓ce_87 hB', rf_87 hB', ↓nn_31, ↓nn_33, ↓nn_89, ↓nn_90, ↓nn_91, ↓nn_92, ↓nn_93, ↓nn_94, ↓nn_95, ↓nn_96, ↓nn_97, ↓nn_98, ↓nn_99, ↓nn_100, ↓nn_101, ↓nn_102, ↓nn_103, ↓nn_104, ↓nn_105, ↓nn_106, ↓nn_107, ↓nn_108, p_bs, p_rq0, p_rq1, p_rz0, p_rz1, p_us, p_un, p_uj, ↓reduceIte, m27', v_ng0 hHW', show (Int32.ofNat 12 = 0) = False from by decide, show (Int32.ofNat 12 = 1) = False from by decide, show (Int32.ofNat 12 = 2) = False from by decide, show (Int32.ofNat 12 = 3) = False from by decide, show (Int32.ofNat 12 = 4) = False from by decide, show (Int32.ofNat 12 = 5) = False from by decide, show (Int32.ofNat 12 = 6) = False from by decide, show (Int32.ofNat 12 = 7) = False from by decide, show (Int32.ofNat 12 = 8) = False from by decide, show (Int32.ofNat 12 = 9) = False from by decide, show (Int32.ofNat 12 = 10) = False from by decide, show (Int32.ofNat 12 = 11) = False from by decide, show (Int32.ofNat 12 = 12) = True from by decide, x1', y1']
  · rw [hz'] at h18'
    refine ⟨-1, I', _, X', ?_, ?_, v_thr h'⟩
    · unfold F_X11_all
      simp (disch := omega) only [↓ce_36 hB', rf_36 hB', ↓nn_38, ↓nn_40, ↓nn_45, ↓nn_50, ↓nn_52, ↓nn_53, ↓nn_54, ↓nn_56, ↓nn_58, ↓nn_64, ↓nn_67, ↓nn_68, ↓nn_84, p_bs, p_rq0, p_rq1, p_rz0, p_rz1, p_us, p_un, p_uj, ↓reduceIte, h18', t_b0]
    · have := (v_thr h').2.2.2.1.2.2.1.2.2.2.2
      rw [(v_zf h' hz').2] at this
      unfold F_X12_all
      simp (disch := omega) only [↓ce_87 hB', rf_87 hB', ↓nn_31, ↓nn_33, ↓nn_89, ↓nn_90, ↓nn_91, ↓nn_92, ↓nn_93, ↓nn_94, ↓nn_95, ↓nn_96, ↓nn_97, ↓nn_98, ↓nn_99, ↓nn_100, ↓nn_101, ↓nn_102, ↓nn_103, ↓nn_104, ↓nn_105, ↓nn_106, ↓nn_107, ↓nn_108, p_bs, p_rq0, p_rq1, p_rz0, p_rz1, p_us, p_un, p_uj, ↓reduceIte, this, show Int32.ofNat 0 = 0 from rfl]
end PY'
