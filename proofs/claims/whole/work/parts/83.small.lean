/-! law, step, log -/
def p_Z (X' : p_X) (v' : Nat) : p_X := (X'.1, q_u2 X'.2.1 63 3 v', X'.2.2)
theorem p_Zr (X' : p_X) (u' k' j' : Nat) (h' : ¬ (k' = 63 ∧ j' = 3)) : (p_Z X' u').2.1 k' j' = X'.2.1 k' j' := p_uN _ _ _ _ _ _ h'
theorem p_Zv (X' : p_X) (u' : Nat) : (p_Z X' u').2.1 63 3 = u' := by
  show q_u2 X'.2.1 63 3 u' 63 3 = u'
  simp [q_u2, va_up]
theorem p_BZ {X' : p_X} (hB' : p_B X') (v' : Nat) : p_B (p_Z X' v') := by
  refine ⟨hB'.1, fun z' hz' => ?_⟩
  have h' : ∀ z' ∈ p_rfT, ¬ (z'.1 = 63 ∧ z'.2.1 = 3) := by decide
  show q_u2 X'.2.1 63 3 v' z'.1 z'.2.1 = _
  rw [p_uN _ _ _ _ _ _ (h' z' hz')]
  exact hB'.2 z' hz'
theorem t_LOZ {lw' L' : Nat} {X' : p_X} (h' : t_LO lw' L' X') (u' : Nat) : t_LO lw' L' (p_Z X' u') := by
  obtain ⟨h1', h2', h3', h4', h5', h6', h7'⟩ := h'
  exact ⟨h1', by rw [p_Zr X' u' _ _ (by omega)]; exact h2', by rw [p_Zr X' u' _ _ (by omega)]; exact h3', h4', h5', h6', h7'⟩
theorem t_WSZ {wd' : Nat} {X' : p_X} (h' : t_WS wd' X') (u' : Nat) : t_WS wd' (p_Z X' u') := by
  obtain ⟨h1', h2', h3', h4', h5'⟩ := h'
  exact ⟨h1', by rw [p_Zr X' u' _ _ (by omega)]; exact h2', h3', h4', h5'⟩
section PS'
variable {A' : v_A} {X' : p_X} {I' : p_I}
theorem v_lawSet (h' : v_V A' I' X') (l' : Int32) (u' : Nat) (hlh' : ∀ J' : p_I, J' 36 16 = l' → J' 87 34 = l' → v_LH J' (p_Z X' u') A'.2.2.2.1 A'.2.2.2.2.1) : v_V A' (q_u2 (q_u2 (q_u2 I' 36 16 l') 87 0 0) 87 34 l') (p_Z X' u') := by
  have hv' := v_thr h'
  obtain ⟨hB', hS', hT', hH', hN', hP', hG', hC', hL', hLH', hW', hD', hF'⟩ := id hv'
  have k' : ∀ c', c' ≠ 36 → c' ≠ 87 → q_u2 (q_u2 (q_u2 I' 36 16 l') 87 0 0) 87 34 l' c' = q_u2 I' 87 0 0 c' := fun c' h1' h2' => by rw [p_uc _ _ _ _ _ h2', p_uc _ _ _ _ _ h2', p_uc _ _ _ _ _ h1', p_uc _ _ _ _ _ h2']
  have k36' : ∀ j', j' ≠ 16 → q_u2 (q_u2 (q_u2 I' 36 16 l') 87 0 0) 87 34 l' 36 j' = q_u2 I' 87 0 0 36 j' := fun j' hj' => by rw [p_uc _ _ _ _ _ (by decide), p_uc _ _ _ _ _ (by decide), p_uj _ _ _ _ _ hj', p_uc _ _ _ _ _ (by decide)]
  have k87' : ∀ j', j' ≠ 34 → q_u2 (q_u2 (q_u2 I' 36 16 l') 87 0 0) 87 34 l' 87 j' = q_u2 I' 87 0 0 87 j' := fun j' hj' => by
    rw [p_uj _ _ _ _ _ hj']
    by_cases e0' : j' = 0
    · subst e0'; rw [p_us, p_us]
    · rw [p_uj _ _ _ _ _ e0', p_uj _ _ _ _ _ e0', p_uc _ _ _ _ _ (by decide)]
  have hx1' : q_u2 (q_u2 (q_u2 I' 36 16 l') 87 0 0) 87 34 l' 36 16 = l' := by rw [p_uc _ _ _ _ _ (by decide), p_uc _ _ _ _ _ (by decide), p_us]
  have hx2' : q_u2 (q_u2 (q_u2 I' 36 16 l') 87 0 0) 87 34 l' 87 34 = l' := p_us _ _ _ _
  generalize q_u2 (q_u2 (q_u2 I' 36 16 l') 87 0 0) 87 34 l' = J' at *
  refine ⟨p_BZ hB' u', fun c' hc' => by rw [k' c' (by omega) (by omega)]; exact hS' c' hc', v_Tk hT' (by rw [k' 37 (by decide) (by decide)]) (k87' _ (by decide)) (k' _ (by decide) (by decide)) (k' _ (by decide) (by decide)), v_Hk hH' (k36' _ (by decide)) (fun c' h1' h2' => k' c' (by omega) (by omega)) (k' _ (by decide) (by decide)) (k' _ (by decide) (by decide)) (k' _ (by decide) (by decide)) (k87' _ (by decide)) (k87' _ (by decide)), v_Nk hN' (k' _ (by decide) (by decide)) (k' _ (by decide) (by decide)) (k' _ (by decide) (by decide)), v_Pk hP' (by rw [k' 57 (by decide) (by decide)]) (by rw [k' 57 (by decide) (by decide)]) (k' _ (by decide) (by decide)) (k' _ (by decide) (by decide)) (k' _ (by decide) (by decide)) (k87' _ (by decide)), v_Gk hG' (by rw [k' 57 (by decide) (by decide)]) (k' _ (by decide) (by decide)) (k' _ (by decide) (by decide)) (k' _ (by decide) (by decide)) (k87' _ (by decide)), v_Ck hC' (by rw [k' 83 (by decide) (by decide)]) (k' _ (by decide) (by decide)) (k' _ (by decide) (by decide)) (k87' _ (by decide)), ?_, hlh' _ hx1' hx2', ?_, hD', v_Fk hF' (k36' _ (by decide)) (k87' _ (by decide))⟩
  · obtain ⟨a1', a2', a3', a4'⟩ := v_Lk (J' := J') hL' (k36' _ (by decide)) (k87' _ (by decide)) (fun c' hc' => k' c' (by omega) (by omega)) (k' _ (by decide) (by decide)) (k' _ (by decide) (by decide))
    refine ⟨a1', a2', a3', fun i' hi' => ?_⟩
    obtain ⟨β, n', cls', b1', b2', b3'⟩ := a4' i' hi'
    exact ⟨β, n', cls', by rw [p_Zr X' u' _ _ (by omega)]; exact b1', t_LOZ b2' u', b3'⟩
  · obtain ⟨a1', a2', a3', a4', a5', a6'⟩ := v_Wk (J' := J') hW' (k36' _ (by decide)) (k87' _ (by decide)) (fun c' hc' => k' c' (by omega) (by omega)) (k' _ (by decide) (by decide)) (k' _ (by decide) (by decide))
    refine ⟨a1', a2', a3', fun i' hi' => t_WSZ (a4' i' hi') u', by rw [p_Zr X' u' _ _ (by omega)]; exact a5', fun i' hi' => ?_⟩
    obtain ⟨b1', b2'⟩ := a6' i' hi'
    exact ⟨by rw [p_Zr X' u' _ _ (by omega)]; exact b1', b2'⟩
theorem m_law (h' : v_V A' I' X') (l' : Int32) : ∃ r' I1' J' X1', F_X11_law 36 l' (I', X') = some (r', (I1', X1')) ∧ F_X12_law 87 l' (I1', X1') = some (r', (J', X1')) ∧ v_V A' J' X1' := by
  have hv' := v_thr h'
  obtain ⟨hB', hS', hT', hH', hN', hP', hG', hC', hL', hLH', hW', hD', hF'⟩ := id h'
  have hlc' := hL'.1
  have e14' := hL'.2.1
  have e7' := hL'.2.2.1
  by_cases hm1' : l' = -1
  · subst hm1'
    have hset := v_lawSet h' (-1) 0 (fun J' j1' j2' => .inl ⟨j1', j2', p_Zv X' 0⟩)
    have hlt' : (-1 : Int32) < Int32.ofNat A'.2.2.2.1 := by
      have e1' : (-1 : Int32).toInt = -1 := by decide
      rw [Int32.lt_iff_toInt_lt, e1', p_toI _ (by omega)]; omega
    refine ⟨1, q_u2 I' 36 16 (-1), _, p_Z X' 0, ?_, ?_, hset⟩
    · unfold F_X11_law J_X11_law_39
      simp (disch := omega) only [↓ce_36 hB', rf_36 hB', ↓nn_38, ↓nn_40, ↓nn_45, ↓nn_50, ↓nn_52, ↓nn_53, ↓nn_54, ↓nn_56, ↓nn_58, ↓nn_64, ↓nn_67, ↓nn_68, ↓nn_84, p_bs, p_rq0, p_rq1, p_rz0, p_rz1, p_us, p_un, p_uj, ↓reduceIte, show ((-1 : Int32) < -1) = False from by decide, e14', hlt']
      rw [p_pR (sh_63 hB') (by decide)]
      rfl
    · have hB'' := p_BZ hB' 0
      unfold F_X12_law J_X12_law_28
      have hB' := hB''
      simp (disch := omega) only [↓ce_87 hB', rf_87 hB', ↓nn_31, ↓nn_33, ↓nn_89, ↓nn_90, ↓nn_91, ↓nn_92, ↓nn_93, ↓nn_94, ↓nn_95, ↓nn_96, ↓nn_97, ↓nn_98, ↓nn_99, ↓nn_100, ↓nn_101, ↓nn_102, ↓nn_103, ↓nn_104, ↓nn_105, ↓nn_106, ↓nn_107, ↓nn_108, p_bs, p_rq0, p_rq1, p_rz0, p_rz1, p_us, p_un, p_uj, ↓reduceIte]
  · have hin' : ∀ J' : p_I, F_X12_isIn l'.toInt64 0 ((Int32.ofNat A'.2.2.2.1 - 1).toInt64) (J', X') = some (t_b (t_inr l' A'.2.2.2.1)) := fun J' => s_isInM l' _ (by omega) 0 _ rfl rfl _
    cases hr' : t_inr l' A'.2.2.2.1
    · refine ⟨0, I', _, X', ?_, ?_, hv'⟩
      · unfold F_X11_law
        by_cases h1' : l' < -1
        · simp only [h1', ↓reduceIte, p_rz0]
        · have hnl' : ¬ l' < Int32.ofNat A'.2.2.2.1 := by
            intro h2'
            have h0' : ¬ l' < 0 := by
              intro h3'
              have e1' : (-1 : Int32).toInt = -1 := by decide
              have e0' : (0 : Int32).toInt = 0 := rfl
              rw [Int32.lt_iff_toInt_lt, e1'] at h1'
              rw [Int32.lt_iff_toInt_lt, e0'] at h3'
              apply hm1'
              apply Int32.toInt_inj.mp
              rw [e1']; omega
            unfold t_inr at hr'
            simp only [h0', h2', decide_false, decide_true, Bool.not_false, Bool.and_self] at hr'
            cases hr'
          simp (disch := omega) only [↓ce_36 hB', rf_36 hB', ↓nn_38, ↓nn_40, ↓nn_45, ↓nn_50, ↓nn_52, ↓nn_53, ↓nn_54, ↓nn_56, ↓nn_58, ↓nn_64, ↓nn_67, ↓nn_68, ↓nn_84, p_bs, p_rq0, p_rq1, p_rz0, p_rz1, p_us, p_un, p_uj, ↓reduceIte, h1', e14', hnl']
      · unfold F_X12_law
        simp (disch := omega) only [↓ce_87 hB', rf_87 hB', ↓nn_31, ↓nn_33, ↓nn_89, ↓nn_90, ↓nn_91, ↓nn_92, ↓nn_93, ↓nn_94, ↓nn_95, ↓nn_96, ↓nn_97, ↓nn_98, ↓nn_99, ↓nn_100, ↓nn_101, ↓nn_102, ↓nn_103, ↓nn_104, ↓nn_105, ↓nn_106, ↓nn_107, ↓nn_108, p_bs, p_rq0, p_rq1, p_rz0, p_rz1, p_us, p_un, p_uj, ↓reduceIte, hm1', e7', hin', hr', t_b0]
    · obtain ⟨i', hi', rfl⟩ := t_inrE (by omega) hr'
      obtain ⟨β, n', cls', b1', b2', b3'⟩ := hL'.2.2.2 i' hi'
      have hset := v_lawSet h' (Int32.ofNat i') (A'.2.2.2.2.1 i' + 1) (fun J' j1' j2' => .inr ⟨i', hi', j1', j2', p_Zv X' _⟩)
      have hn1' : ¬ Int32.ofNat i' < -1 := by
        have e1' : (-1 : Int32).toInt = -1 := by decide
        rw [Int32.lt_iff_toInt_lt, e1', p_toI _ (by omega)]; omega
      refine ⟨1, q_u2 I' 36 16 (Int32.ofNat i'), _, p_Z X' (A'.2.2.2.2.1 i' + 1), ?_, ?_, hset⟩
      · unfold F_X11_law J_X11_law_39
        simp (disch := omega) only [↓ce_36 hB', rf_36 hB', ↓ce_51 hB', ↓nn_38, ↓nn_40, ↓nn_45, ↓nn_50, ↓nn_52, ↓nn_53, ↓nn_54, ↓nn_56, ↓nn_58, ↓nn_64, ↓nn_67, ↓nn_68, ↓nn_84, p_bs, p_rq0, p_rq1, p_rz0, p_rz1, p_us, p_un, p_uj, ↓reduceIte, hn1', e14', p_lt, hi', p_ofN1, b1']
        rw [p_pR (sh_63 hB') (by decide)]
        rfl
      · have hin'' : ∀ (J' : p_I) (X1' : p_X), F_X12_isIn (Int32.ofNat i').toInt64 0 ((Int32.ofNat A'.2.2.2.1 - 1).toInt64) (J', X1') = some (t_b (t_inr (Int32.ofNat i') A'.2.2.2.1)) := fun J' X1' => s_isInM _ _ (by omega) 0 _ rfl rfl _
        have hB' := p_BZ hB' (A'.2.2.2.2.1 i' + 1)
        unfold F_X12_law J_X12_law_28
        simp (disch := omega) only [↓ce_87 hB', rf_87 hB', ↓nn_31, ↓nn_33, ↓nn_89, ↓nn_90, ↓nn_91, ↓nn_92, ↓nn_93, ↓nn_94, ↓nn_95, ↓nn_96, ↓nn_97, ↓nn_98, ↓nn_99, ↓nn_100, ↓nn_101, ↓nn_102, ↓nn_103, ↓nn_104, ↓nn_105, ↓nn_106, ↓nn_107, ↓nn_108, p_bs, p_rq0, p_rq1, p_rz0, p_rz1, p_us, p_un, p_uj, ↓reduceIte, p_ofN1, e7', hin'', hr', t_b0, Bool.true_eq_false]
theorem s_isWeek (hB' : p_B X') {wc' : Nat} (h30' : I' 87 30 = Int32.ofNat wc') (l' : Int32) : F_X12_isWeek 87 l' (I', X') = some (t_b (t_inr l' wc')) := by
  unfold F_X12_isWeek
  simp (disch := omega) only [↓ce_87 hB', rf_87 hB', ↓nn_31, ↓nn_33, ↓nn_89, ↓nn_90, ↓nn_91, ↓nn_92, ↓nn_93, ↓nn_94, ↓nn_95, ↓nn_96, ↓nn_97, ↓nn_98, ↓nn_99, ↓nn_100, ↓nn_101, ↓nn_102, ↓nn_103, ↓nn_104, ↓nn_105, ↓nn_106, ↓nn_107, ↓nn_108, p_bs, p_rq0, p_rq1, p_rz0, p_rz1, p_us, p_un, p_uj, ↓reduceIte, h30']
  simp only [← p_rq0, ← p_rq1]
  rw [t_ifr l' _ wc' rfl, t_qb]
theorem s_weekAt (hB' : p_B X') {wc' : Nat} (hwc' : wc' ≤ 4) (h15' : I' 36 15 = Int32.ofNat wc') (l' : Int32) : F_X11_weekAt 36 l' (I', X') = some (if t_inr l' wc' = true then X'.2.1 52 l'.toNatClampNeg else 0) := by
  cases hr' : t_inr l' wc'
  · unfold F_X11_weekAt
    have key' : ∀ B' : Option Nat, (if l' < 0 then some 0 else if l' < Int32.ofNat wc' then B' else some 0) = some 0 := fun B' => by
      rw [t_ifr l' _ wc' rfl, hr']; simp
    simp (disch := omega) only [↓ce_36 hB', rf_36 hB', ↓nn_38, ↓nn_40, ↓nn_45, ↓nn_50, ↓nn_52, ↓nn_53, ↓nn_54, ↓nn_56, ↓nn_58, ↓nn_64, ↓nn_67, ↓nn_68, ↓nn_84, p_bs, p_rq0, p_rq1, p_rz0, p_rz1, p_us, p_un, p_uj, ↓reduceIte, h15']
    rw [key']
    simp
  · obtain ⟨i', hi', rfl⟩ := t_inrE (by omega) hr'
    unfold F_X11_weekAt
    simp (disch := omega) only [↓ce_36 hB', rf_36 hB', ↓ce_52 hB', ↓nn_38, ↓nn_40, ↓nn_45, ↓nn_50, ↓nn_52, ↓nn_53, ↓nn_54, ↓nn_56, ↓nn_58, ↓nn_64, ↓nn_67, ↓nn_68, ↓nn_84, p_bs, p_rq0, p_rq1, p_rz0, p_rz1, p_us, p_un, p_uj, ↓reduceIte, p_cm, Nat.not_lt_zero, h15', p_lt, hi', p_nat]
theorem s_ofStep {wd' : Nat} (hw' : t_WS wd' X') (i' k' : Nat) (h' : 3 * i' + k' < 48) : F_X10_ofStep wd' (Int32.ofNat i') (Int32.ofNat k') (I', X') = some (I' (wd' + 1) (3 * i' + k')) := by
  obtain ⟨w1', w2', w3', w4', w5'⟩ := hw'
  unfold F_X10_ofStep
  have h0' : ¬ i' * 3 + k' < 0 := by omega
  have h1' : i' * 3 + k' < 48 := by omega
  simp (disch := omega) only [p_ar, p_cm, h0', ↓reduceIte, p_gR w1', w2', p_nns, p_al w3' (show (0 : Nat) < 6 by decide), p_lt, h1', p_lI w3' (by decide)]
  rw [Nat.mul_comm]
theorem m_step (h' : v_V A' I' X') (l' l2' l3' : Int32) : ∃ r' J', F_X11_step 36 l' l2' l3' (I', X') = some r' ∧ F_X12_step 87 l' l2' l3' (I', X') = some (r', (J', X')) ∧ v_V A' J' X' := by
  have hv' := v_thr h'
  obtain ⟨hB', hS', hT', hH', hN', hP', hG', hC', hL', hLH', hW', hD', hF'⟩ := id h'
  obtain ⟨a1', a2', a3', a4', a5', a6'⟩ := hW'
  have a3'' : q_u2 I' 87 0 0 87 30 = Int32.ofNat A'.2.2.2.2.2.1 := by rw [p_uj _ _ _ _ _ (by decide)]; exact a3'
  have hwk' := s_weekAt hB' a1' a2' l'
  have hiw' := s_isWeek hB' a3'' l'
  unfold F_X11_step F_X12_step
  simp (disch := omega) only [↓ce_36 hB', rf_36 hB', ↓ce_87 hB', rf_87 hB', ↓nn_31, ↓nn_33, ↓nn_38, ↓nn_40, ↓nn_45, ↓nn_50, ↓nn_52, ↓nn_53, ↓nn_54, ↓nn_56, ↓nn_58, ↓nn_64, ↓nn_67, ↓nn_68, ↓nn_84, ↓nn_89, ↓nn_90, ↓nn_91, ↓nn_92, ↓nn_93, ↓nn_94, ↓nn_95, ↓nn_96, ↓nn_97, ↓nn_98, ↓nn_99, ↓nn_100, ↓nn_101, ↓nn_102, ↓nn_103, ↓nn_104, ↓nn_105, ↓nn_106, ↓nn_107, ↓nn_108, p_bs, p_rq0, p_rq1, p_rz0, p_rz1, p_us, p_un, p_uj, ↓reduceIte, hwk', hiw', t_b0]
  cases hr' : t_inr l' A'.2.2.2.2.2.1
  · simp only [Bool.false_eq_true, ↓reduceIte]
    exact ⟨_, _, rfl, rfl, hv'⟩
  · obtain ⟨i', hi', rfl⟩ := t_inrE (by omega) hr'
    obtain ⟨b1', sz', b2', b3', b4', b5', b6'⟩ := a6' i' hi'
    have hws' := a4' i' (by omega)
    obtain ⟨w1', w2', w3', w4', w5'⟩ := id hws'
    have hin2' := s_isInM l2' sz' (by omega) 0 _ rfl rfl (q_u2 I' 87 0 0, X')
    have hin3' := s_isInT l3' 2 (by decide) 0 2 rfl rfl (q_u2 I' 87 0 0, X')
    have b4'' : q_u2 I' 87 0 0 99 i' = Int32.ofNat sz' := by rw [p_un _ _ _ _ _ _ (by decide)]; exact b4'
    simp only [↓reduceIte, Bool.true_eq_false, p_nat i' (show i' < 2147483648 by omega), b1', p_gI w1', b3']
    simp (disch := omega) only [↓ce_87 hB', rf_87 hB', ↓ce_99 hB', ↓nn_31, ↓nn_33, ↓nn_89, ↓nn_90, ↓nn_91, ↓nn_92, ↓nn_93, ↓nn_94, ↓nn_95, ↓nn_96, ↓nn_97, ↓nn_98, ↓nn_99, ↓nn_100, ↓nn_101, ↓nn_102, ↓nn_103, ↓nn_104, ↓nn_105, ↓nn_106, ↓nn_107, ↓nn_108, p_bs, p_rq0, p_rq1, p_rz0, p_rz1, p_us, p_un, p_uj, ↓reduceIte, b4', hin2', hin3', t_b0]
    rw [t_ifr l2' _ sz' rfl]
    cases hr2' : t_inr l2' sz'
    · simp only [↓reduceIte, Bool.false_eq_true]
      exact ⟨_, _, rfl, rfl, hv'⟩
    · obtain ⟨i2', hi2', rfl⟩ := t_inrE (by omega) hr2'
      simp only [Bool.true_eq_false, ↓reduceIte]
      rw [t_ifr l3' 3 3 rfl]
      cases hr3' : t_inr l3' 3
      · simp only [↓reduceIte, Bool.false_eq_true]
        exact ⟨_, _, rfl, rfl, hv'⟩
      · obtain ⟨k', hk', rfl⟩ := t_inrE (by decide) hr3'
        have ho' := s_ofStep (I' := I') hws' i2' k' (by omega)
        have e98' : I' 98 (3 * (16 * i' + i2') + k') = I' (A'.2.2.2.2.2.2 i' + 1) (3 * i2' + k') := by
          rw [show 3 * (16 * i' + i2') + k' = 48 * i' + (3 * i2' + k') by omega]
          exact b5' _ (by omega)
        simp only [Bool.true_eq_false, ↓reduceIte, p_ob w1', ho', p_bs]
        simp (disch := omega) only [↓ce_87 hB', rf_87 hB', ↓ce_98 hB', ↓nn_31, ↓nn_33, ↓nn_89, ↓nn_90, ↓nn_91, ↓nn_92, ↓nn_93, ↓nn_94, ↓nn_95, ↓nn_96, ↓nn_97, ↓nn_98, ↓nn_99, ↓nn_100, ↓nn_101, ↓nn_102, ↓nn_103, ↓nn_104, ↓nn_105, ↓nn_106, ↓nn_107, ↓nn_108, p_bs, p_rq0, p_rq1, p_rz0, p_rz1, p_us, p_un, p_uj, ↓reduceIte, p_ar, e98']
        exact ⟨_, _, rfl, rfl, hv'⟩
theorem m_log (h' : v_V A' I' X') (l' l2' : Int32) : ∃ r' J', F_X11_log 36 l' l2' (I', X') = some r' ∧ F_X12_log 87 l' l2' (I', X') = some (r', (J', X')) ∧ v_V A' J' X' := by
  have hv' := v_thr h'
  obtain ⟨hB', hS', hT', hH', hN', hP', hG', hC', hL', hLH', hW', hD', hF'⟩ := id h'
  obtain ⟨H', hz', D', lc', lwf', wc', wkf'⟩ := A'
  try simp only at hN'
  have hD0' : I' 54 0 = Int32.ofNat D' ∧ D' ≤ 999 := by
    cases hz' with
    | false => rw [(hN'.2 rfl).1, (hN'.2 rfl).2.1 0 (by decide) (by decide)]; exact ⟨rfl, by decide⟩
    | true => exact ⟨(hN'.1 rfl).2.2.1, (hN'.1 rfl).2.2.2.1⟩
  have hlog : I' 100 36 = Int32.ofNat (min D' 60) := by
    cases hz' with
    | false => rw [(hN'.2 rfl).2.2.2 36 (by decide), (hN'.2 rfl).1]; rfl
    | true => exact (hN'.1 rfl).2.2.2.2.2.1
  have hmn' := q_mn60 D' (by omega)
  have hin' := s_isInM l' (min D' 60) (by omega) 0 _ rfl rfl (q_u2 I' 87 0 0, X')
  have hin2' := s_isInT l2' 2 (by decide) 0 2 rfl rfl (q_u2 I' 87 0 0, X')
  unfold F_X11_log F_X12_log F_X6_logLength
  simp (disch := omega) only [↓ce_36 hB', rf_36 hB', ↓ce_53 hB', rf_53 hB', ↓ce_54 hB', ↓ce_87 hB', rf_87 hB', ↓ce_100 hB', ↓nn_31, ↓nn_33, ↓nn_38, ↓nn_40, ↓nn_45, ↓nn_50, ↓nn_52, ↓nn_53, ↓nn_54, ↓nn_55, ↓nn_56, ↓nn_58, ↓nn_64, ↓nn_67, ↓nn_68, ↓nn_84, ↓nn_89, ↓nn_90, ↓nn_91, ↓nn_92, ↓nn_93, ↓nn_94, ↓nn_95, ↓nn_96, ↓nn_97, ↓nn_98, ↓nn_99, ↓nn_100, ↓nn_101, ↓nn_102, ↓nn_103, ↓nn_104, ↓nn_105, ↓nn_106, ↓nn_107, ↓nn_108, p_bs, p_rq0, p_rq1, p_rz0, p_rz1, p_us, p_un, p_uj, ↓reduceIte, hD0'.1, hmn', hlog, hin', hin2', t_b0]
  rw [t_ifr l' _ (min D' 60) rfl]
  cases hr' : t_inr l' (min D' 60)
  · simp only [↓reduceIte, Bool.false_eq_true]
    exact ⟨_, _, rfl, rfl, hv'⟩
  · obtain ⟨i', hi', rfl⟩ := t_inrE (by omega) hr'
    simp only [Bool.true_eq_false, ↓reduceIte]
    rw [t_ifr l2' 3 3 rfl]
    cases hr2' : t_inr l2' 3
    · simp only [↓reduceIte, Bool.false_eq_true]
      exact ⟨_, _, rfl, rfl, hv'⟩
    · obtain ⟨k', hk', rfl⟩ := t_inrE (by decide) hr2'
      have hzt' : hz' = true := by
        cases hz' with
        | true => rfl
        | false => have := (hN'.2 rfl).1; omega
      subst hzt'
      have hlg' := (hN'.1 rfl).2.2.2.2.2.2 (min D' 60 - 1 - i') (by omega) k' hk'
      have e1' : Int32.ofNat D' - 1 - Int32.ofNat i' = Int32.ofNat (D' - 1 - i') := by rw [p_sub1 D' (by omega), p_osub _ _ (by omega)]
      have e2' : Int32.ofNat (min D' 60) - 1 - Int32.ofNat i' = Int32.ofNat (min D' 60 - 1 - i') := by rw [p_sub1 _ (by omega), p_osub _ _ (by omega)]
      have hm' := Nat.mod_lt (D' - 1 - i') (show 0 < 128 by decide)
      have e3' : D' - min D' 60 + (min D' 60 - 1 - i') = D' - 1 - i' := by omega
      rw [e3'] at hlg'
      have hlt' : (D' - 1 - i') % 128 * 3 + k' < 384 := by omega
      have hn0' : ¬ (D' - 1 - i') % 128 * 3 + k' < 0 := by omega
      unfold F_X6_ofLog F_X6_logRow
      rw [e1', e2', p_a127 _ (by omega)]
      simp (disch := omega) only [↓ce_57 hB', rf_57 hB', ↓ce_59 hB', ↓ce_100 hB', ↓nn_59, ↓nn_60, ↓nn_61, ↓nn_62, p_bs, p_rq0, p_rq1, p_rz0, p_rz1, p_us, p_un, p_uj, ↓reduceIte, Bool.true_eq_false, p_ar, p_cm, hn0', p_lt, hlt', hlg']
      exact ⟨_, _, rfl, rfl, hv'⟩
end PS'
