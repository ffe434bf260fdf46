/-! seen -/
section PN'
variable {A' : v_A} {X' : p_X} {I' : p_I}
theorem v_see (h' : v_V A' I' X') {K' : p_I} (n' : ∀ c', ¬ (c' = 83 ∨ c' = 84 ∨ c' = 87 ∨ c' = 104) → K' c' = I' c') (n87' : ∀ j', ¬ (j' = 0 ∨ j' = 45) → K' 87 j' = I' 87 j') (hC'' : v_C A'.1 K') : v_V A' K' X' := by
  obtain ⟨hB', hS', hT', hH', hN', hP', hG', hC', hL', hLH', hW', hD', hF'⟩ := h'
  exact ⟨hB', fun c' hc' => by rw [n' c' (by omega)]; exact hS' c' hc', v_Tk hT' (by rw [n' 37 (by omega)]) (n87' _ (by omega)) (n' _ (by omega)) (n' _ (by omega)), v_Hk hH' (by rw [n' 36 (by omega)]) (fun c' h1' h2' => n' c' (by omega)) (n' _ (by omega)) (n' _ (by omega)) (n' _ (by omega)) (n87' _ (by omega)) (n87' _ (by omega)), v_Nk hN' (n' _ (by omega)) (n' _ (by omega)) (n' _ (by omega)), v_Pk hP' (by rw [n' 57 (by omega)]) (by rw [n' 57 (by omega)]) (n' _ (by omega)) (n' _ (by omega)) (n' _ (by omega)) (n87' _ (by omega)), v_Gk hG' (by rw [n' 57 (by omega)]) (n' _ (by omega)) (n' _ (by omega)) (n' _ (by omega)) (n87' _ (by omega)), hC'', v_Lk hL' (by rw [n' 36 (by omega)]) (n87' _ (by omega)) (fun c' hc' => n' c' (by omega)) (n' _ (by omega)) (n' _ (by omega)), v_LHk hLH' (by rw [n' 36 (by omega)]) (n87' _ (by omega)), v_Wk hW' (by rw [n' 36 (by omega)]) (n87' _ (by omega)) (fun c' hc' => n' c' (by omega)) (n' _ (by omega)) (n' _ (by omega)), hD', v_Fk hF' (by rw [n' 36 (by omega)]) (n87' _ (by omega))⟩
theorem s_areWJ (w' y' : Int32) (M' : q_Mem) : F_X11_areWarmthAndJoy w' y' M' = some (t_b (t_inr w' 21 && (decide (-9 ≤ y') && decide (y' ≤ 20)))) := by
  have e1' : t_inr w' 21 = (!decide (w' < 0) && !decide (20 < w')) := by
    unfold t_inr
    have e0' : (0 : Int32).toInt = 0 := rfl
    have e20' : (20 : Int32).toInt = 20 := by decide
    rw [Bool.eq_iff_iff]
    simp only [Bool.and_eq_true, decide_eq_true_eq, Bool.not_eq_true', decide_eq_false_iff_not, Int32.lt_iff_toInt_lt, e0', e20', p_toI 21 (by decide)]
    omega
  have e2' : decide ((-9 : Int32) ≤ y') = !decide (y' < -9) := by
    rw [Bool.eq_iff_iff]
    simp only [decide_eq_true_eq, Bool.not_eq_true', decide_eq_false_iff_not]
    exact Int32.not_lt.symm
  have e3' : decide (y' ≤ 20) = !decide (20 < y') := by
    rw [Bool.eq_iff_iff]
    simp only [decide_eq_true_eq, Bool.not_eq_true', decide_eq_false_iff_not]
    exact Int32.not_lt.symm
  rw [e1', e2', e3']
  unfold F_X11_areWarmthAndJoy
  by_cases c1' : w' < 0 <;> by_cases c2' : 20 < w' <;> by_cases c3' : y' < -9 <;> by_cases c4' : 20 < y' <;> simp [c1', c2', c3', c4', t_b, p_rq0, p_rq1]
theorem m_seen (h' : v_V A' I' X') (g' d' w' y' t' : Int32) : ∃ r' I1' J' X1', F_X11_seen 36 g' d' w' y' t' (I', X') = some (r', (I1', X')) ∧ F_X12_seen 87 g' d' w' y' t' (I1', X') = some (r', (J', X1')) ∧ v_V A' J' X1' := by
  obtain ⟨hB', hS', hT', hH', hN', hP', hG', hC', hL', hLH', hW', hD', hF'⟩ := id h'
  have hg' := s_hasGuest hB' hH'.2.1 g'
  have hd' := s_hasDish hB' hH'.2.1 d'
  have hmM' := (v_thr h').2.2.2.1.2.2.1
  have hg'' := s_isGuest hB' hmM' g'
  have hd'' := s_isDish hB' hmM' d'
  have hw' : ∀ M' : q_Mem, F_X12_isIn w'.toInt64 0 20 M' = some (t_b (t_inr w' 21)) := fun M' => s_isInT w' 20 (by decide) 0 20 rfl rfl M'
  have hy' : ∀ M' : q_Mem, F_X12_isIn y'.toInt64 (-9) 20 M' = some (t_b (decide (-9 ≤ y') && decide (y' ≤ 20))) := fun M' => s_isIn3 y' (-9) 20 M'
  have hwj' := fun M' => s_areWJ w' y' M'
  have hng6' : t_ng A'.1 ≤ 6 := hH'.2.1.2.2.2.2.2.2.2
  have hnd5' : t_nd A'.1 ≤ 5 := hH'.2.1.2.2.2.2.2.2.1
  obtain ⟨k', q1', q2', q3', q4', q5'⟩ := id hC'
  cases hr1' : t_inr g' (t_ng A'.1)
  · refine ⟨-1, I', _, X', ?_, ?_, v_thr h'⟩
    · unfold F_X11_seen
      simp (disch := omega) only [↓ce_36 hB', rf_36 hB', ↓ce_39 hB', rf_39 hB', ↓nn_38, ↓nn_40, ↓nn_41, ↓nn_42, ↓nn_43, ↓nn_44, ↓nn_45, ↓nn_50, ↓nn_52, ↓nn_53, ↓nn_54, ↓nn_56, ↓nn_58, ↓nn_64, ↓nn_67, ↓nn_68, ↓nn_84, p_bs, p_rq0, p_rq1, p_rz0, p_rz1, p_us, p_un, p_uj, ↓reduceIte, hg', hr1', t_b0]
    · unfold F_X12_seen
      simp (disch := omega) only [↓ce_87 hB', rf_87 hB', ↓nn_31, ↓nn_33, ↓nn_89, ↓nn_90, ↓nn_91, ↓nn_92, ↓nn_93, ↓nn_94, ↓nn_95, ↓nn_96, ↓nn_97, ↓nn_98, ↓nn_99, ↓nn_100, ↓nn_101, ↓nn_102, ↓nn_103, ↓nn_104, ↓nn_105, ↓nn_106, ↓nn_107, ↓nn_108, p_bs, p_rq0, p_rq1, p_rz0, p_rz1, p_us, p_un, p_uj, ↓reduceIte, hg'', hr1', t_b0]
  · cases hr2' : t_inr d' (t_nd A'.1)
    · refine ⟨-1, I', _, X', ?_, ?_, v_thr h'⟩
      · unfold F_X11_seen
        simp (disch := omega) only [↓ce_36 hB', rf_36 hB', ↓ce_39 hB', rf_39 hB', ↓nn_38, ↓nn_40, ↓nn_41, ↓nn_42, ↓nn_43, ↓nn_44, ↓nn_45, ↓nn_50, ↓nn_52, ↓nn_53, ↓nn_54, ↓nn_56, ↓nn_58, ↓nn_64, ↓nn_67, ↓nn_68, ↓nn_84, p_bs, p_rq0, p_rq1, p_rz0, p_rz1, p_us, p_un, p_uj, ↓reduceIte, hg', hr1', hd', hr2', t_b0, Bool.true_eq_false]
      · unfold F_X12_seen
        simp (disch := omega) only [↓ce_87 hB', rf_87 hB', ↓nn_31, ↓nn_33, ↓nn_89, ↓nn_90, ↓nn_91, ↓nn_92, ↓nn_93, ↓nn_94, ↓nn_95, ↓nn_96, ↓nn_97, ↓nn_98, ↓nn_99, ↓nn_100, ↓nn_101, ↓nn_102, ↓nn_103, ↓nn_104, ↓nn_105, ↓nn_106, ↓nn_107, ↓nn_108, p_bs, p_rq0, p_rq1, p_rz0, p_rz1, p_us, p_un, p_uj, ↓reduceIte, hg'', hr1', hd'', hr2', t_b0, Bool.true_eq_false]
    · cases hr3' : t_inr w' 21
      · refine ⟨-1, I', _, X', ?_, ?_, v_thr h'⟩
        · unfold F_X11_seen
          simp (disch := omega) only [↓ce_36 hB', rf_36 hB', ↓ce_39 hB', rf_39 hB', ↓nn_38, ↓nn_40, ↓nn_41, ↓nn_42, ↓nn_43, ↓nn_44, ↓nn_45, ↓nn_50, ↓nn_52, ↓nn_53, ↓nn_54, ↓nn_56, ↓nn_58, ↓nn_64, ↓nn_67, ↓nn_68, ↓nn_84, p_bs, p_rq0, p_rq1, p_rz0, p_rz1, p_us, p_un, p_uj, ↓reduceIte, hg', hr1', hd', hr2', hwj', hr3', Bool.false_and, t_b0, Bool.true_eq_false]
        · unfold F_X12_seen
          simp (disch := omega) only [↓ce_87 hB', rf_87 hB', ↓nn_31, ↓nn_33, ↓nn_89, ↓nn_90, ↓nn_91, ↓nn_92, ↓nn_93, ↓nn_94, ↓nn_95, ↓nn_96, ↓nn_97, ↓nn_98, ↓nn_99, ↓nn_100, ↓nn_101, ↓nn_102, ↓nn_103, ↓nn_104, ↓nn_105, ↓nn_106, ↓nn_107, ↓nn_108, p_bs, p_rq0, p_rq1, p_rz0, p_rz1, p_us, p_un, p_uj, ↓reduceIte, hg'', hr1', hd'', hr2', hw', hr3', t_b0, Bool.true_eq_false]
      · cases hr4' : (decide ((-9 : Int32) ≤ y') && decide (y' ≤ 20))
        · refine ⟨-1, I', _, X', ?_, ?_, v_thr h'⟩
          · unfold F_X11_seen
            simp (disch := omega) only [↓ce_36 hB', rf_36 hB', ↓ce_39 hB', rf_39 hB', ↓nn_38, ↓nn_40, ↓nn_41, ↓nn_42, ↓nn_43, ↓nn_44, ↓nn_45, ↓nn_50, ↓nn_52, ↓nn_53, ↓nn_54, ↓nn_56, ↓nn_58, ↓nn_64, ↓nn_67, ↓nn_68, ↓nn_84, p_bs, p_rq0, p_rq1, p_rz0, p_rz1, p_us, p_un, p_uj, ↓reduceIte, hg', hr1', hd', hr2', hwj', hr3', hr4', Bool.true_and, t_b0, Bool.true_eq_false]
          · unfold F_X12_seen
            simp (disch := omega) only [↓ce_87 hB', rf_87 hB', ↓nn_31, ↓nn_33, ↓nn_89, ↓nn_90, ↓nn_91, ↓nn_92, ↓nn_93, ↓nn_94, ↓nn_95, ↓nn_96, ↓nn_97, ↓nn_98, ↓nn_99, ↓nn_100, ↓nn_101, ↓nn_102, ↓nn_103, ↓nn_104, ↓nn_105, ↓nn_106, ↓nn_107, ↓nn_108, p_bs, p_rq0, p_rq1, p_rz0, p_rz1, p_us, p_un, p_uj, ↓reduceIte, hg'', hr1', hd'', hr2', hw', hr3', hy', hr4', t_b0, Bool.true_eq_false]
        · by_cases hk' : k' = 10
          · subst hk'
            refine ⟨-1, I', _, X', ?_, ?_, v_thr h'⟩
            · unfold F_X11_seen F_X7_add
              simp (disch := omega) only [↓ce_36 hB', rf_36 hB', ↓ce_39 hB', rf_39 hB', ↓ce_83 hB', rf_83 hB', ↓nn_38, ↓nn_40, ↓nn_41, ↓nn_42, ↓nn_43, ↓nn_44, ↓nn_45, ↓nn_50, ↓nn_52, ↓nn_53, ↓nn_54, ↓nn_56, ↓nn_58, ↓nn_64, ↓nn_67, ↓nn_68, ↓nn_84, ↓nn_85, p_bs, p_rq0, p_rq1, p_rz0, p_rz1, p_us, p_un, p_uj, ↓reduceIte, hg', hr1', hd', hr2', hwj', hr3', hr4', Bool.true_and, t_b0, Bool.true_eq_false, q2', show (Int32.ofNat 10 < 10) = False from by decide]
            · unfold F_X12_seen
              simp (disch := omega) only [↓ce_87 hB', rf_87 hB', ↓nn_31, ↓nn_33, ↓nn_89, ↓nn_90, ↓nn_91, ↓nn_92, ↓nn_93, ↓nn_94, ↓nn_95, ↓nn_96, ↓nn_97, ↓nn_98, ↓nn_99, ↓nn_100, ↓nn_101, ↓nn_102, ↓nn_103, ↓nn_104, ↓nn_105, ↓nn_106, ↓nn_107, ↓nn_108, p_bs, p_rq0, p_rq1, p_rz0, p_rz1, p_us, p_un, p_uj, ↓reduceIte, hg'', hr1', hd'', hr2', hw', hr3', hy', hr4', t_b0, Bool.true_eq_false, q3', show (Int32.ofNat 10 = 10) = True from by decide]
          · have hk10' : (Int32.ofNat k' < 10) = True := by
              rw [show (10 : Int32) = Int32.ofNat 10 from rfl, p_lt k' 10 (by omega) (by decide)]
              apply eq_true
              omega
            have hkn' : (Int32.ofNat k' = 10) = False := by
              apply eq_false
              intro e'
              exact hk' (p_inj (show Int32.ofNat k' = Int32.ofNat 10 from e') (by omega) (by omega))
            obtain ⟨gn', hgn', rfl⟩ := t_inrE (by omega) hr1'
            obtain ⟨dn', hdn', rfl⟩ := t_inrE (by omega) hr2'
            obtain ⟨wn', hwn', rfl⟩ := t_inrE (by omega) hr3'
            obtain ⟨tb', htb'⟩ : ∃ tb' : Bool, (t' = 0) = (tb' = false) := ⟨!decide (t' = 0), by by_cases e' : t' = 0 <;> simp [e']⟩
            have cl' : F_X11_seen 36 (Int32.ofNat gn') (Int32.ofNat dn') (Int32.ofNat wn') y' t' (I', X') = some (Int32.ofNat (k' + 1), (q_u2 (q_u2 (q_u2 (q_u2 (q_u2 (q_u2 I' 84 (5 * k') (Int32.ofNat gn')) 84 (5 * k' + 1) (Int32.ofNat dn')) 84 (5 * k' + 2) (Int32.ofNat wn')) 84 (5 * k' + 3) y') 84 (5 * k' + 4) (t_b tb')) 83 3 (Int32.ofNat (k' + 1)), X')) := by
              have km' : Int32.ofNat k' * 5 = Int32.ofNat (5 * k') := by rw [show (5 : Int32) = Int32.ofNat 5 from rfl, ← Int32.ofNat_mul, Nat.mul_comm]
              unfold F_X11_seen F_X7_add J_X7_add_76
              simp (disch := omega) only [↓ce_36 hB', rf_36 hB', ↓ce_39 hB', rf_39 hB', ↓ce_83 hB', rf_83 hB', ↓ce_84 hB', ↓nn_38, ↓nn_40, ↓nn_41, ↓nn_42, ↓nn_43, ↓nn_44, ↓nn_45, ↓nn_50, ↓nn_52, ↓nn_53, ↓nn_54, ↓nn_56, ↓nn_58, ↓nn_64, ↓nn_67, ↓nn_68, ↓nn_84, ↓nn_85, p_bs, p_rq0, p_rq1, p_rz0, p_rz1, p_us, p_un, p_uj, ↓reduceIte, hg', hr1', hd', hr2', hwj', hr3', hr4', Bool.true_and, t_b0, Bool.true_eq_false, q2', hk10', km', htb', p_ar]
              cases tb' <;> rfl
            have k1' : ∀ c', c' ≠ 83 → c' ≠ 84 → q_u2 (q_u2 (q_u2 (q_u2 (q_u2 (q_u2 I' 84 (5 * k') (Int32.ofNat gn')) 84 (5 * k' + 1) (Int32.ofNat dn')) 84 (5 * k' + 2) (Int32.ofNat wn')) 84 (5 * k' + 3) y') 84 (5 * k' + 4) (t_b tb')) 83 3 (Int32.ofNat (k' + 1)) c' = I' c' := fun c' z1' z2' => by simp (disch := omega) only [p_uc]
            have k83' : q_u2 (q_u2 (q_u2 (q_u2 (q_u2 (q_u2 I' 84 (5 * k') (Int32.ofNat gn')) 84 (5 * k' + 1) (Int32.ofNat dn')) 84 (5 * k' + 2) (Int32.ofNat wn')) 84 (5 * k' + 3) y') 84 (5 * k' + 4) (t_b tb')) 83 3 (Int32.ofNat (k' + 1)) 83 3 = Int32.ofNat (k' + 1) := p_us _ _ _ _
            have k84' : ∃ e' : Nat → Int32, e' = q_u2 (q_u2 (q_u2 (q_u2 (q_u2 (q_u2 I' 84 (5 * k') (Int32.ofNat gn')) 84 (5 * k' + 1) (Int32.ofNat dn')) 84 (5 * k' + 2) (Int32.ofNat wn')) 84 (5 * k' + 3) y') 84 (5 * k' + 4) (t_b tb')) 83 3 (Int32.ofNat (k' + 1)) 84 ∧ (∀ j', j' < 5 * k' → e' j' = I' 84 j') ∧ e' (5 * k') = Int32.ofNat gn' ∧ e' (5 * k' + 1) = Int32.ofNat dn' ∧ e' (5 * k' + 2) = Int32.ofNat wn' ∧ e' (5 * k' + 3) = y' ∧ e' (5 * k' + 4) = t_b tb' := by
              refine ⟨_, rfl, fun j' hj' => ?_, ?_, ?_, ?_, ?_, ?_⟩ <;> simp (disch := omega) only [p_uc, p_uj, p_us]
            generalize q_u2 (q_u2 (q_u2 (q_u2 (q_u2 (q_u2 I' 84 (5 * k') (Int32.ofNat gn')) 84 (5 * k' + 1) (Int32.ofNat dn')) 84 (5 * k' + 2) (Int32.ofNat wn')) 84 (5 * k' + 3) y') 84 (5 * k' + 4) (t_b tb')) 83 3 (Int32.ofNat (k' + 1)) = I1' at *
            obtain ⟨e', rfl, x0', x1', x2', x3', x4', x5'⟩ := k84'
            have hM1' : t_HM A'.1 (q_u2 I1' 87 0 0) := v_hm h' (by rw [p_uc _ _ _ _ _ (by decide), k1' 92 (by decide) (by decide)]) (by rw [p_uc _ _ _ _ _ (by decide), k1' 94 (by decide) (by decide)]) (by rw [p_uc _ _ _ _ _ (by decide), k1' 96 (by decide) (by decide)]) (by rw [p_uj _ _ _ _ _ (by decide), k1' 87 (by decide) (by decide)]) (by rw [p_uj _ _ _ _ _ (by decide), k1' 87 (by decide) (by decide)])
            have hg2' := s_isGuest hB' hM1' (Int32.ofNat gn')
            have hd2' := s_isDish hB' hM1' (Int32.ofNat dn')
            have l45' : I1' 87 45 = Int32.ofNat k' := by rw [k1' 87 (by decide) (by decide)]; exact q3'
            have cm' : F_X12_seen 87 (Int32.ofNat gn') (Int32.ofNat dn') (Int32.ofNat wn') y' t' (I1', X') = some (Int32.ofNat (k' + 1), (q_u2 (q_u2 (q_u2 (q_u2 (q_u2 (q_u2 (q_u2 I1' 87 0 0) 104 (5 * k') (Int32.ofNat gn')) 104 (5 * k' + 1) (Int32.ofNat dn')) 104 (5 * k' + 2) (Int32.ofNat wn')) 104 (5 * k' + 3) y') 104 (5 * k' + 4) (t_b tb')) 87 45 (Int32.ofNat (k' + 1)), X')) := by
              unfold F_X12_seen J_X12_seen_124
              simp (disch := omega) only [↓ce_87 hB', rf_87 hB', ↓ce_104 hB', ↓nn_31, ↓nn_33, ↓nn_89, ↓nn_90, ↓nn_91, ↓nn_92, ↓nn_93, ↓nn_94, ↓nn_95, ↓nn_96, ↓nn_97, ↓nn_98, ↓nn_99, ↓nn_100, ↓nn_101, ↓nn_102, ↓nn_103, ↓nn_104, ↓nn_105, ↓nn_106, ↓nn_107, ↓nn_108, p_bs, p_rq0, p_rq1, p_rz0, p_rz1, p_us, p_un, p_uj, ↓reduceIte, hg2', hr1', hd2', hr2', hw', hr3', hy', hr4', t_b0, Bool.true_eq_false, l45', hkn', htb', p_ar]
              cases tb' <;> rfl
            refine ⟨_, I1', _, X', cl', cm', v_see h' (fun c' hc' => ?_) (fun j' hj' => ?_) ?_⟩
            · simp (disch := omega) only [p_uc]
              exact k1' c' (by omega) (by omega)
            · simp (disch := omega) only [p_uj, p_uc]
              rw [k1' 87 (by decide) (by decide)]
            · refine ⟨k' + 1, by omega, ?_, ?_, fun j' hj' => ?_, fun i' hi' => ?_⟩
              · simp (disch := omega) only [p_uc]; exact k83'
              · rw [p_us]
              · by_cases ej' : j' < 5 * k'
                · simp (disch := omega) only [p_uc, p_uj]
                  rw [k1' 104 (by decide) (by decide), x0' j' ej']
                  exact q4' j' ej'
                · have hc5' : j' = 5 * k' ∨ j' = 5 * k' + 1 ∨ j' = 5 * k' + 2 ∨ j' = 5 * k' + 3 ∨ j' = 5 * k' + 4 := by omega
                  rcases hc5' with rfl | rfl | rfl | rfl | rfl
                  · simp (disch := omega) only [p_uc, p_uj, p_us]; exact x1'.symm
                  · simp (disch := omega) only [p_uc, p_uj, p_us]; exact x2'.symm
                  · simp (disch := omega) only [p_uc, p_uj, p_us]; exact x3'.symm
                  · simp (disch := omega) only [p_uc, p_uj, p_us]; exact x4'.symm
                  · simp (disch := omega) only [p_uc, p_uj, p_us]; exact x5'.symm
              · simp (disch := omega) only [p_uc]
                by_cases ei' : i' = k'
                · subst ei'
                  exact ⟨gn', dn', wn', tb', x1', hgn', x2', hdn', x3', by omega, x5'⟩
                · obtain ⟨g'', d'', w'', hd'', y1', y2', y3', y4', y5', y6', y7'⟩ := q5' i' (by omega)
                  exact ⟨g'', d'', w'', hd'', by rw [x0' _ (by omega)]; exact y1', y2', by rw [x0' _ (by omega)]; exact y3', y4', by rw [x0' _ (by omega)]; exact y5', y6', by rw [x0' _ (by omega)]; exact y7'⟩
end PN'
