/-! undo, image, back -/
section PB'
variable {A' : v_A} {X' : p_X} {I' : p_I}
theorem v_reb (h' : v_V A' I' X') {K' : p_I} {D'' : Nat} (k1' : ∀ c', c' ≠ 54 → c' ≠ 57 → c' ≠ 58 → c' ≠ 59 → c' ≠ 60 → c' ≠ 62 → c' ≠ 87 → c' ≠ 100 → c' ≠ 103 → c' ≠ 107 → K' c' = I' c') (k87' : ∀ j', j' ≠ 0 → j' ≠ 42 → j' ≠ 49 → K' 87 j' = I' 87 j') (hN'' : v_N A'.1 A'.2.1 K' D'') (hP'' : v_P A'.1 A'.2.1 K' D'') (hG'' : v_G A'.1 A'.2.1 K') : v_V (A'.1, A'.2.1, D'', A'.2.2.2) K' X' := by
  have n' : ∀ c', ¬ (c' = 54 ∨ c' = 57 ∨ c' = 58 ∨ c' = 59 ∨ c' = 60 ∨ c' = 62 ∨ c' = 87 ∨ c' = 100 ∨ c' = 103 ∨ c' = 107) → K' c' = I' c' := fun c' hc' => k1' c' (by omega) (by omega) (by omega) (by omega) (by omega) (by omega) (by omega) (by omega) (by omega) (by omega)
  have n87' : ∀ j', ¬ (j' = 0 ∨ j' = 42 ∨ j' = 49) → K' 87 j' = I' 87 j' := fun j' hj' => k87' j' (by omega) (by omega) (by omega)
  obtain ⟨hB', hS', hT', hH', hN', hP', hG', hC', hL', hLH', hW', hD', hF'⟩ := h'
  exact ⟨hB', fun c' hc' => by rw [n' c' (by omega)]; exact hS' c' hc', v_Tk hT' (by rw [n' 37 (by omega)]) (n87' _ (by omega)) (n' _ (by omega)) (n' _ (by omega)), v_Hk hH' (by rw [n' 36 (by omega)]) (fun c' h1' h2' => n' c' (by omega)) (n' _ (by omega)) (n' _ (by omega)) (n' _ (by omega)) (n87' _ (by omega)) (n87' _ (by omega)), hN'', hP'', hG'', v_Ck hC' (by rw [n' 83 (by omega)]) (n' _ (by omega)) (n' _ (by omega)) (n87' _ (by omega)), v_Lk hL' (by rw [n' 36 (by omega)]) (n87' _ (by omega)) (fun c' hc' => n' c' (by omega)) (n' _ (by omega)) (n' _ (by omega)), v_LHk hLH' (by rw [n' 36 (by omega)]) (n87' _ (by omega)), v_Wk hW' (by rw [n' 36 (by omega)]) (n87' _ (by omega)) (fun c' hc' => n' c' (by omega)) (n' _ (by omega)) (n' _ (by omega)), hD', v_Fk hF' (by rw [n' 36 (by omega)]) (n87' _ (by omega))⟩
theorem s_undoLp (hB' : p_B X') {q' : Nat} (hq' : q' < 40) (h42' : I' 87 42 = Int32.ofNat q') : ∃ J', q_lp (fun s' => B_X12_undo_26 87 s'.1 s'.2) q_fu ((0 : Int32), (I', X')) = some (J', X') ∧ (∀ c', c' ≠ 100 → J' c' = I' c') ∧ (∀ i', i' < 217 → J' 100 i' = I' 103 (217 * q' + i')) := by
  obtain ⟨z', h1', J', rfl, j1', j2'⟩ := p_lp (fun z' => B_X12_undo_26 87 z'.1 z'.2) (fun i' z' => ∃ J', z' = (Int32.ofNat i', (J', X')) ∧ (∀ c', c' ≠ 100 → J' c' = I' c') ∧ (∀ x', x' < i' → J' 100 x' = I' 103 (217 * q' + x')))
    (fun z' => ∃ J', z' = (J', X') ∧ (∀ c', c' ≠ 100 → J' c' = I' c') ∧ (∀ x', x' < 217 → J' 100 x' = I' 103 (217 * q' + x'))) 217 (by
      rintro i' z' hi' ⟨J', rfl, j1', j2'⟩
      have l42' : J' 87 42 = Int32.ofNat q' := by rw [j1' 87 (by decide)]; exact h42'
      unfold B_X12_undo_26
      by_cases hlt' : i' < 217
      · left
        simp (disch := omega) only [↓ce_87 hB', rf_87 hB', ↓ce_100 hB', ↓ce_103 hB', ↓nn_31, ↓nn_33, ↓nn_89, ↓nn_90, ↓nn_91, ↓nn_92, ↓nn_93, ↓nn_94, ↓nn_95, ↓nn_96, ↓nn_97, ↓nn_98, ↓nn_99, ↓nn_100, ↓nn_101, ↓nn_102, ↓nn_103, ↓nn_104, ↓nn_105, ↓nn_106, ↓nn_107, ↓nn_108, p_bs, p_rq0, p_rq1, p_rz0, p_rz1, p_us, p_un, p_uj, ↓reduceIte, p_cm, hlt', l42', p_ar]
        refine ⟨_, rfl, True.intro, _, rfl, fun c' hc' => by rw [p_uc _ _ _ _ _ hc']; exact j1' c' hc', fun x' hx' => ?_⟩
        by_cases e' : x' = i'
        · subst e'; rw [p_us, j1' 103 (by decide)]
        · rw [p_uj _ _ _ _ _ (by omega)]; exact j2' x' (by omega)
      · right
        have hi'' : i' = 217 := by omega
        subst hi''
        simp (disch := omega) only [p_bs, p_rq0, p_rq1, p_rz0, p_rz1, p_us, p_un, p_uj, ↓reduceIte, p_cm, Nat.lt_irrefl]
        exact ⟨_, rfl, J', rfl, j1', j2'⟩) 217 0 q_fu (0, (I', X')) (by omega) (by unfold q_fu; omega) ⟨I', rfl, fun _ _ => rfl, fun x' hx' => absurd hx' (by omega)⟩
  exact ⟨J', h1', j1', j2'⟩
theorem s_imageLp (hB' : p_B X') : ∃ J', q_lp (fun s' => B_X12_image_16 87 s'.1 s'.2) q_fu ((0 : Int32), (I', X')) = some (J', X') ∧ (∀ c', c' ≠ 107 → J' c' = I' c') ∧ (∀ i', i' < 217 → J' 107 i' = I' 100 i') := by
  obtain ⟨z', h1', J', rfl, j1', j2'⟩ := p_lp (fun z' => B_X12_image_16 87 z'.1 z'.2) (fun i' z' => ∃ J', z' = (Int32.ofNat i', (J', X')) ∧ (∀ c', c' ≠ 107 → J' c' = I' c') ∧ (∀ x', x' < i' → J' 107 x' = I' 100 x'))
    (fun z' => ∃ J', z' = (J', X') ∧ (∀ c', c' ≠ 107 → J' c' = I' c') ∧ (∀ x', x' < 217 → J' 107 x' = I' 100 x')) 217 (by
      rintro i' z' hi' ⟨J', rfl, j1', j2'⟩
      unfold B_X12_image_16
      by_cases hlt' : i' < 217
      · left
        simp (disch := omega) only [↓ce_87 hB', rf_87 hB', ↓ce_100 hB', ↓ce_107 hB', ↓nn_31, ↓nn_33, ↓nn_89, ↓nn_90, ↓nn_91, ↓nn_92, ↓nn_93, ↓nn_94, ↓nn_95, ↓nn_96, ↓nn_97, ↓nn_98, ↓nn_99, ↓nn_100, ↓nn_101, ↓nn_102, ↓nn_103, ↓nn_104, ↓nn_105, ↓nn_106, ↓nn_107, ↓nn_108, p_bs, p_rq0, p_rq1, p_rz0, p_rz1, p_us, p_un, p_uj, ↓reduceIte, p_cm, hlt', p_ar]
        refine ⟨_, rfl, True.intro, _, rfl, fun c' hc' => by rw [p_uc _ _ _ _ _ hc']; exact j1' c' hc', fun x' hx' => ?_⟩
        by_cases e' : x' = i'
        · subst e'; rw [p_us, j1' 100 (by decide)]
        · rw [p_uj _ _ _ _ _ (by omega)]; exact j2' x' (by omega)
      · right
        have hi'' : i' = 217 := by omega
        subst hi''
        simp (disch := omega) only [p_bs, p_rq0, p_rq1, p_rz0, p_rz1, p_us, p_un, p_uj, ↓reduceIte, p_cm, Nat.lt_irrefl]
        exact ⟨_, rfl, J', rfl, j1', j2'⟩) 217 0 q_fu (0, (I', X')) (by omega) (by unfold q_fu; omega) ⟨I', rfl, fun _ _ => rfl, fun x' hx' => absurd hx' (by omega)⟩
  exact ⟨J', h1', j1', j2'⟩
theorem s_backLp (hB' : p_B X') : ∃ J', q_lp (fun s' => B_X12_back_16 87 s'.1 s'.2) q_fu ((0 : Int32), (I', X')) = some (J', X') ∧ (∀ c', c' ≠ 100 → J' c' = I' c') ∧ (∀ i', i' < 217 → J' 100 i' = I' 107 i') := by
  obtain ⟨z', h1', J', rfl, j1', j2'⟩ := p_lp (fun z' => B_X12_back_16 87 z'.1 z'.2) (fun i' z' => ∃ J', z' = (Int32.ofNat i', (J', X')) ∧ (∀ c', c' ≠ 100 → J' c' = I' c') ∧ (∀ x', x' < i' → J' 100 x' = I' 107 x'))
    (fun z' => ∃ J', z' = (J', X') ∧ (∀ c', c' ≠ 100 → J' c' = I' c') ∧ (∀ x', x' < 217 → J' 100 x' = I' 107 x')) 217 (by
      rintro i' z' hi' ⟨J', rfl, j1', j2'⟩
      unfold B_X12_back_16
      by_cases hlt' : i' < 217
      · left
        simp (disch := omega) only [↓ce_87 hB', rf_87 hB', ↓ce_100 hB', ↓ce_107 hB', ↓nn_31, ↓nn_33, ↓nn_89, ↓nn_90, ↓nn_91, ↓nn_92, ↓nn_93, ↓nn_94, ↓nn_95, ↓nn_96, ↓nn_97, ↓nn_98, ↓nn_99, ↓nn_100, ↓nn_101, ↓nn_102, ↓nn_103, ↓nn_104, ↓nn_105, ↓nn_106, ↓nn_107, ↓nn_108, p_bs, p_rq0, p_rq1, p_rz0, p_rz1, p_us, p_un, p_uj, ↓reduceIte, p_cm, hlt', p_ar]
        refine ⟨_, rfl, True.intro, _, rfl, fun c' hc' => by rw [p_uc _ _ _ _ _ hc']; exact j1' c' hc', fun x' hx' => ?_⟩
        by_cases e' : x' = i'
        · subst e'; rw [p_us, j1' 107 (by decide)]
        · rw [p_uj _ _ _ _ _ (by omega)]; exact j2' x' (by omega)
      · right
        have hi'' : i' = 217 := by omega
        subst hi''
        simp (disch := omega) only [p_bs, p_rq0, p_rq1, p_rz0, p_rz1, p_us, p_un, p_uj, ↓reduceIte, p_cm, Nat.lt_irrefl]
        exact ⟨_, rfl, J', rfl, j1', j2'⟩) 217 0 q_fu (0, (I', X')) (by omega) (by unfold q_fu; omega) ⟨I', rfl, fun _ _ => rfl, fun x' hx' => absurd hx' (by omega)⟩
  exact ⟨J', h1', j1', j2'⟩
theorem m_undo (h' : v_V A' I' X') : ∃ r' I1' J' X1' D', F_X11_undo 36 (I', X') = some (r', (I1', X1')) ∧ F_X12_undo 87 (I1', X1') = some (r', (J', X1')) ∧ v_V (A'.1, A'.2.1, D', A'.2.2.2) J' X1' := by
  obtain ⟨hB', hS', hT', hH', hN', hP', hG', hC', hL', hLH', hW', hD', hF'⟩ := id h'
  obtain ⟨k', m', dd', q1', q2', q3', q4', q5', q6', q7', q8'⟩ := hP'
  by_cases hk' : k' = 0
  · subst hk'
    refine ⟨-1, I', _, X', A'.2.2.1, ?_, ?_, v_thr h'⟩
    · unfold F_X11_undo F_X6_undoAct
      simp (disch := omega) only [↓ce_36 hB', rf_36 hB', ↓ce_57 hB', rf_57 hB', ↓ce_53 hB', rf_53 hB', ↓nn_38, ↓nn_40, ↓nn_45, ↓nn_50, ↓nn_52, ↓nn_53, ↓nn_54, ↓nn_55, ↓nn_56, ↓nn_58, ↓nn_59, ↓nn_60, ↓nn_61, ↓nn_62, ↓nn_64, ↓nn_67, ↓nn_68, ↓nn_84, p_bs, p_rq0, p_rq1, p_rz0, p_rz1, p_us, p_un, p_uj, ↓reduceIte, q3', show Int32.ofNat 0 = 0 from rfl]
    · unfold F_X12_undo
      simp (disch := omega) only [↓ce_87 hB', rf_87 hB', ↓nn_31, ↓nn_33, ↓nn_89, ↓nn_90, ↓nn_91, ↓nn_92, ↓nn_93, ↓nn_94, ↓nn_95, ↓nn_96, ↓nn_97, ↓nn_98, ↓nn_99, ↓nn_100, ↓nn_101, ↓nn_102, ↓nn_103, ↓nn_104, ↓nn_105, ↓nn_106, ↓nn_107, ↓nn_108, p_bs, p_rq0, p_rq1, p_rz0, p_rz1, p_us, p_un, p_uj, ↓reduceIte, q5', show Int32.ofNat 0 = 0 from rfl]
  · obtain ⟨p', rfl⟩ : ∃ p', k' = p' + 1 := ⟨k' - 1, by omega⟩
    have hne' : (Int32.ofNat (p' + 1) = 0) = False := by
      apply eq_false
      intro h'
      have := p_inj (show Int32.ofNat (p' + 1) = Int32.ofNat 0 from h') (by omega) (by omega)
      omega
    have hzt' : A'.2.1 = true := by
      cases hz' : A'.2.1
      · have := q6' hz'; omega
      · rfl
    have hsl' : ∃ t', t' < 40 ∧ (m' + 40 - (p' + 1) + p') % 40 = t' ∧ (0 < m' → t' = m' - 1) ∧ (m' = 0 → t' = 39) := ⟨(m' + 40 - (p' + 1) + p') % 40, by omega, rfl, fun h' => by omega, fun h' => by omega⟩
    obtain ⟨t', t1', t2', t3', t4'⟩ := hsl'
    have hcp' : ∀ (M' : p_I) (f' : q_Mem → Option (Int32 × q_Mem)), q_cp (M', X') 58 (Int32.ofNat (t' * 31)) 54 0 31 f' = f' (va_up M' 54 (va_cpy (M' 58) (M' 54) (t' * 31) 0 31), X') := fun M' f' => s_cp (sh_58 hB') (sh_54 hB') (by decide) (by decide) (t' * 31) 0 31 (by decide) (by omega) (by decide) (by decide) (by decide) f'
    have hcl' : F_X11_undo 36 (I', X') = some (Int32.ofNat p', (va_up (q_u2 (q_u2 I' 57 5 (Int32.ofNat t')) 57 6 (Int32.ofNat p')) 54 (va_cpy (I' 58) (I' 54) (t' * 31) 0 31), X')) := by
      have e1' : va_up (q_u2 (q_u2 I' 57 5 (Int32.ofNat t')) 57 6 (Int32.ofNat p')) 54 (va_cpy (I' 58) (I' 54) (t' * 31) 0 31) 57 6 = Int32.ofNat p' := by rw [p_ucp _ _ _ _ (by decide), p_us]
      unfold F_X11_undo F_X6_undoAct J_X6_undoAct_28
      by_cases hm' : 0 < m'
      · have e2' : Int32.ofNat m' - 1 = Int32.ofNat t' := by rw [t3' hm']; exact p_osub m' 1 hm'
        simp (disch := omega) only [↓ce_36 hB', rf_36 hB', ↓ce_53 hB', rf_53 hB', ↓ce_57 hB', rf_57 hB', ↓nn_38, ↓nn_40, ↓nn_45, ↓nn_50, ↓nn_52, ↓nn_53, ↓nn_54, ↓nn_55, ↓nn_56, ↓nn_58, ↓nn_59, ↓nn_60, ↓nn_61, ↓nn_62, ↓nn_64, ↓nn_67, ↓nn_68, ↓nn_84, p_bs, p_rq0, p_rq1, p_rz0, p_rz1, p_us, p_un, p_uj, ↓reduceIte, q3', q4', hne', p_cm, hm', e2', p_sub1', p_ar, hcp', p_uc, e1', show ((1 : Int32) = 0) = False from by decide]
      · have e2' : (39 : Int32) = Int32.ofNat t' := by rw [t4' (by omega)]; rfl
        simp (disch := omega) only [↓ce_36 hB', rf_36 hB', ↓ce_53 hB', rf_53 hB', ↓ce_57 hB', rf_57 hB', ↓nn_38, ↓nn_40, ↓nn_45, ↓nn_50, ↓nn_52, ↓nn_53, ↓nn_54, ↓nn_55, ↓nn_56, ↓nn_58, ↓nn_59, ↓nn_60, ↓nn_61, ↓nn_62, ↓nn_64, ↓nn_67, ↓nn_68, ↓nn_84, p_bs, p_rq0, p_rq1, p_rz0, p_rz1, p_us, p_un, p_uj, ↓reduceIte, q3', q4', hne', p_cm, hm', e2', p_sub1', p_ar, hcp', p_uc, e1', show ((1 : Int32) = 0) = False from by decide]
    have k1' : ∀ c', c' ≠ 54 → c' ≠ 57 → va_up (q_u2 (q_u2 I' 57 5 (Int32.ofNat t')) 57 6 (Int32.ofNat p')) 54 (va_cpy (I' 58) (I' 54) (t' * 31) 0 31) c' = I' c' := fun c' h1' h2' => by rw [p_ucp _ _ _ _ h1', p_uc _ _ _ _ _ h2', p_uc _ _ _ _ _ h2']
    have k57' : ∀ j', j' ≠ 5 → j' ≠ 6 → va_up (q_u2 (q_u2 I' 57 5 (Int32.ofNat t')) 57 6 (Int32.ofNat p')) 54 (va_cpy (I' 58) (I' 54) (t' * 31) 0 31) 57 j' = I' 57 j' := fun j' h1' h2' => by rw [p_ucp _ _ _ _ (by decide), p_uj _ _ _ _ _ h2', p_uj _ _ _ _ _ h1']
    have k575 : va_up (q_u2 (q_u2 I' 57 5 (Int32.ofNat t')) 57 6 (Int32.ofNat p')) 54 (va_cpy (I' 58) (I' 54) (t' * 31) 0 31) 57 5 = Int32.ofNat t' := by rw [p_ucp _ _ _ _ (by decide), p_uj _ _ _ _ _ (by decide), p_us]
    have k576 : va_up (q_u2 (q_u2 I' 57 5 (Int32.ofNat t')) 57 6 (Int32.ofNat p')) 54 (va_cpy (I' 58) (I' 54) (t' * 31) 0 31) 57 6 = Int32.ofNat p' := by rw [p_ucp _ _ _ _ (by decide), p_us]
    have k54' : ∀ j', j' < 31 → va_up (q_u2 (q_u2 I' 57 5 (Int32.ofNat t')) 57 6 (Int32.ofNat p')) 54 (va_cpy (I' 58) (I' 54) (t' * 31) 0 31) 54 j' = I' 58 (t' * 31 + j') := fun j' hj' => by
      rw [p_usp]
      unfold va_cpy
      rw [if_pos ⟨by omega, by omega⟩]
      congr 1
    generalize va_up (q_u2 (q_u2 I' 57 5 (Int32.ofNat t')) 57 6 (Int32.ofNat p')) 54 (va_cpy (I' 58) (I' 54) (t' * 31) 0 31) = I1' at *
    have l42' : q_u2 (q_u2 I1' 87 0 0) 87 42 (Int32.ofNat p') 87 42 = Int32.ofNat p' := p_us _ _ _ _
    obtain ⟨J', j1', j2', j3'⟩ := s_undoLp (I' := q_u2 (q_u2 I1' 87 0 0) 87 42 (Int32.ofNat p')) hB' (by omega) l42'
    have f' : ∀ c', c' ≠ 54 → c' ≠ 57 → c' ≠ 87 → c' ≠ 100 → J' c' = I' c' := fun c' h1' h2' h3' h4' => by rw [j2' c' h4', p_uc _ _ _ _ _ h3', p_uc _ _ _ _ _ h3']; exact k1' c' h1' h2'
    have g54' : J' 54 = I1' 54 := by rw [j2' 54 (by decide), p_uc _ _ _ _ _ (by decide), p_uc _ _ _ _ _ (by decide)]
    have g57' : J' 57 = I1' 57 := by rw [j2' 57 (by decide), p_uc _ _ _ _ _ (by decide), p_uc _ _ _ _ _ (by decide)]
    have g87' : ∀ j', j' ≠ 0 → j' ≠ 42 → J' 87 j' = I' 87 j' := fun j' h1' h2' => by rw [j2' 87 (by decide), p_uj _ _ _ _ _ h2', p_uj _ _ _ _ _ h1', k1' 87 (by decide) (by decide)]
    have g42' : J' 87 42 = Int32.ofNat p' := by rw [j2' 87 (by decide), p_us]
    have i42' : I1' 87 42 = Int32.ofNat (p' + 1) := by rw [k1' 87 (by decide) (by decide)]; exact q5'
    refine ⟨Int32.ofNat p', I1', J', X', dd' p', hcl', ?_, v_reb h' (fun c' z1' z2' z3' z4' z5' z6' z7' z8' z9' z10' => f' c' z1' z2' z7' z8') (fun j' z1' z2' z3' => g87' j' z1' z2') ⟨fun _ => ?_, fun h' => absurd (hzt'.symm.trans h') (by decide)⟩ ?_ (v_Gk hG' (by rw [g57']; exact k57' 4 (by decide) (by decide)) (f' _ (by decide) (by decide) (by decide) (by decide)) (f' _ (by decide) (by decide) (by decide) (by decide)) (f' _ (by decide) (by decide) (by decide) (by decide)) (g87' _ (by decide) (by decide)))⟩
    · unfold F_X12_undo
      simp (disch := omega) only [↓ce_87 hB', rf_87 hB', ↓nn_31, ↓nn_33, ↓nn_89, ↓nn_90, ↓nn_91, ↓nn_92, ↓nn_93, ↓nn_94, ↓nn_95, ↓nn_96, ↓nn_97, ↓nn_98, ↓nn_99, ↓nn_100, ↓nn_101, ↓nn_102, ↓nn_103, ↓nn_104, ↓nn_105, ↓nn_106, ↓nn_107, ↓nn_108, p_bs, p_rq0, p_rq1, p_rz0, p_rz1, p_us, p_un, p_uj, ↓reduceIte, i42', hne', p_sub1', j1', g42']
    · have h8' := (q8' p' (by omega)).1
      rw [f' 59 (by decide) (by decide) (by decide) (by decide)]
      refine v_Ra h8' (fun i' hi' => ?_) (fun i' hi' => ?_)
      · rw [g54', k54' i' hi']
        unfold t_ar
        rw [t2']
      · rw [j3' i' hi', p_uc _ _ _ _ _ (by decide), p_uc _ _ _ _ _ (by decide), k1' 103 (by decide) (by decide)]
        rfl
    · refine ⟨p', t', dd', by omega, t1', by rw [g57']; exact k576, by rw [g57']; exact k575, g42', fun h' => absurd (hzt'.symm.trans h') (by decide), rfl, fun j' hj' => ?_⟩
      have h8' := q8' j' (by omega)
      refine ⟨?_, h8'.2⟩
      rw [f' 59 (by decide) (by decide) (by decide) (by decide)]
      have e1' : t_ar J' t' p' j' = t_ar I' m' (p' + 1) j' := by
        unfold t_ar
        rw [f' 58 (by decide) (by decide) (by decide) (by decide), show (t' + 40 - p' + j') % 40 = (m' + 40 - (p' + 1) + j') % 40 by omega]
      have e2' : t_aw J' j' = t_aw I' j' := by
        unfold t_aw
        rw [f' 103 (by decide) (by decide) (by decide) (by decide)]
      rw [e1', e2']
      exact h8'.1
theorem m_image (h' : v_V A' I' X') : ∃ r' I1' J' X1', F_X11_image 36 (I', X') = some (r', (I1', X1')) ∧ F_X12_image 87 (I1', X1') = some (r', (J', X1')) ∧ v_V A' J' X1' := by
  obtain ⟨hB', hS', hT', hH', hN', hP', hG', hC', hL', hLH', hW', hD', hF'⟩ := id h'
  rcases v_t h' with ⟨hz', hR', hHW'⟩ | hz'
  · have h18' := hH'.1
    rw [hz'] at h18'
    obtain ⟨I1', a1', a2', a3'⟩ := s_copyFrom (I' := I') (k1' := 61) (k2' := 53) hB' (by omega) (by omega)
    have hcp' : ∀ (f' : q_Mem → Option (Unit × q_Mem)), q_cp (I1', X') 59 0 60 0 384 f' = f' (va_up I1' 60 (va_cpy (I1' 59) (I1' 60) 0 0 384), X') := fun f' => s_cp (sh_59 hB') (sh_60 hB') (by decide) (by decide) 0 0 384 (by decide) (by decide) (by decide) (by decide) (by decide) f'
    have k1' : ∀ c', c' ≠ 57 → c' ≠ 60 → c' ≠ 62 → q_u2 (va_up I1' 60 (va_cpy (I1' 59) (I1' 60) 0 0 384)) 57 4 1 c' = I' c' := fun c' h1' h2' h3' => by rw [p_uc _ _ _ _ _ h1', p_ucp _ _ _ _ h2']; exact a2' c' h3'
    have k57' : ∀ j', j' ≠ 4 → q_u2 (va_up I1' 60 (va_cpy (I1' 59) (I1' 60) 0 0 384)) 57 4 1 57 j' = I' 57 j' := fun j' hj' => by rw [p_uj _ _ _ _ _ hj', p_ucp _ _ _ _ (by decide), a2' 57 (by decide)]
    have k574 : q_u2 (va_up I1' 60 (va_cpy (I1' 59) (I1' 60) 0 0 384)) 57 4 1 57 4 = 1 := p_us _ _ _ _
    have k62' : ∀ j', j' < 31 → q_u2 (va_up I1' 60 (va_cpy (I1' 59) (I1' 60) 0 0 384)) 57 4 1 62 j' = I' 54 j' := fun j' hj' => by rw [p_uc _ _ _ _ _ (by decide), p_ucp _ _ _ _ (by decide)]; exact a3' j' hj'
    have k60' : ∀ x', x' < 384 → q_u2 (va_up I1' 60 (va_cpy (I1' 59) (I1' 60) 0 0 384)) 57 4 1 60 x' = I' 59 x' := fun x' hx' => by
      rw [p_uc _ _ _ _ _ (by decide), p_usp]
      unfold va_cpy
      rw [if_pos ⟨by omega, by omega⟩, a2' 59 (by decide)]
      congr 1
      omega
    have hcl' : F_X11_image 36 (I', X') = some (I' 54 0, (q_u2 (va_up I1' 60 (va_cpy (I1' 59) (I1' 60) 0 0 384)) 57 4 1, X')) := by
      have e0' : q_u2 (va_up I1' 60 (va_cpy (I1' 59) (I1' 60) 0 0 384)) 57 4 1 54 0 = I' 54 0 := by rw [k1' 54 (by decide) (by decide) (by decide)]
      unfold F_X11_image F_X6_takePicture
      simp (disch := omega) only [↓ce_36 hB', rf_36 hB', ↓ce_53 hB', rf_53 hB', ↓ce_54 hB', ↓ce_57 hB', rf_57 hB', ↓ce_59 hB', ↓ce_61 hB', rf_61 hB', ↓nn_38, ↓nn_40, ↓nn_45, ↓nn_50, ↓nn_52, ↓nn_53, ↓nn_54, ↓nn_55, ↓nn_56, ↓nn_58, ↓nn_59, ↓nn_60, ↓nn_61, ↓nn_62, ↓nn_63, ↓nn_64, ↓nn_67, ↓nn_68, ↓nn_84, p_bs, p_rq0, p_rq1, p_rz0, p_rz1, p_us, p_un, p_uj, ↓reduceIte, h18', t_b0, Bool.true_eq_false, a1', hcp', e0']
    generalize q_u2 (va_up I1' 60 (va_cpy (I1' 59) (I1' 60) 0 0 384)) 57 4 1 = I2' at *
    obtain ⟨J', j1', j2', j3'⟩ := s_imageLp (I' := q_u2 I2' 87 0 0) hB'
    have g27' : q_u2 I2' 87 0 0 87 27 = Int32.ofNat (t_ng A'.1) := by rw [p_uj _ _ _ _ _ (by decide), k1' 87 (by decide) (by decide) (by decide)]; exact hH'.2.2.1.2.2.2.2
    have f' : ∀ c', c' ≠ 57 → c' ≠ 60 → c' ≠ 62 → c' ≠ 87 → c' ≠ 107 → q_u2 J' 87 49 1 c' = I' c' := fun c' h1' h2' h3' h4' h5' => by rw [p_uc _ _ _ _ _ h4', j2' c' h5', p_uc _ _ _ _ _ h4']; exact k1' c' h1' h2' h3'
    have g' : ∀ c', c' ≠ 87 → c' ≠ 107 → q_u2 J' 87 49 1 c' = I2' c' := fun c' h1' h2' => by rw [p_uc _ _ _ _ _ h1', j2' c' h2', p_uc _ _ _ _ _ h1']
    have g87' : ∀ j', j' ≠ 0 → j' ≠ 49 → q_u2 J' 87 49 1 87 j' = I' 87 j' := fun j' h1' h2' => by rw [p_uj _ _ _ _ _ h2', j2' 87 (by decide), p_uj _ _ _ _ _ h1', k1' 87 (by decide) (by decide) (by decide)]
    have e35' : J' 100 35 = I' 54 0 := by rw [j2' 100 (by decide), p_uc _ _ _ _ _ (by decide), k1' 100 (by decide) (by decide) (by decide)]; exact hR'.2.1.1.2.2.2
    refine ⟨I' 54 0, I2', q_u2 J' 87 49 1, X', hcl', ?_, v_reb (D'' := A'.2.2.1) h' (fun c' z1' z2' z3' z4' z5' z6' z7' z8' z9' z10' => f' c' z2' z5' z6' z7' z10') (fun j' z1' z2' z3' => g87' j' z1' z3') (v_Nk hN' (f' _ (by decide) (by decide) (by decide) (by decide) (by decide)) (f' _ (by decide) (by decide) (by decide) (by decide) (by decide)) (f' _ (by decide) (by decide) (by decide) (by decide) (by decide))) (v_Pk hP' (by rw [g' 57 (by decide) (by decide)]; exact k57' 5 (by decide)) (by rw [g' 57 (by decide) (by decide)]; exact k57' 6 (by decide)) (f' _ (by decide) (by decide) (by decide) (by decide) (by decide)) (f' _ (by decide) (by decide) (by decide) (by decide) (by decide)) (f' _ (by decide) (by decide) (by decide) (by decide) (by decide)) (g87' _ (by decide) (by decide))) ⟨true, by rw [g' 57 (by decide) (by decide)]; exact k574, p_us _ _ _ _, fun _ => ⟨hz', A'.2.2.1, ?_⟩⟩⟩
    · unfold F_X12_image
      simp (disch := omega) only [↓ce_87 hB', rf_87 hB', ↓ce_100 hB', ↓nn_31, ↓nn_33, ↓nn_89, ↓nn_90, ↓nn_91, ↓nn_92, ↓nn_93, ↓nn_94, ↓nn_95, ↓nn_96, ↓nn_97, ↓nn_98, ↓nn_99, ↓nn_100, ↓nn_101, ↓nn_102, ↓nn_103, ↓nn_104, ↓nn_105, ↓nn_106, ↓nn_107, ↓nn_108, p_bs, p_rq0, p_rq1, p_rz0, p_rz1, p_us, p_un, p_uj, ↓reduceIte, g27', v_ng0 hHW', j1', e35']
    · refine v_Rlg (lg' := I' 59) ?_ (fun x' q' hq' h1' h2' => ?_)
      · refine v_Ra hR' (fun i' hi' => ?_) (fun i' hi' => ?_)
        · rw [g' 62 (by decide) (by decide)]; exact k62' i' hi'
        · rw [p_uc _ _ _ _ _ (by decide), j3' i' hi', p_uc _ _ _ _ _ (by decide), k1' 100 (by decide) (by decide) (by decide)]
      · rw [g' 60 (by decide) (by decide)]; exact k60' _ (by omega)
  · have h18' := hH'.1
    rw [hz'] at h18'
    refine ⟨-1, I', _, X', ?_, ?_, v_thr h'⟩
    · unfold F_X11_image
      simp (disch := omega) only [↓ce_36 hB', rf_36 hB', ↓nn_38, ↓nn_40, ↓nn_45, ↓nn_50, ↓nn_52, ↓nn_53, ↓nn_54, ↓nn_56, ↓nn_58, ↓nn_64, ↓nn_67, ↓nn_68, ↓nn_84, p_bs, p_rq0, p_rq1, p_rz0, p_rz1, p_us, p_un, p_uj, ↓reduceIte, h18', t_b0]
    · have := (v_thr h').2.2.2.1.2.2.1.2.2.2.2
      rw [(v_zf h' hz').2] at this
      unfold F_X12_image
      simp (disch := omega) only [↓ce_87 hB', rf_87 hB', ↓nn_31, ↓nn_33, ↓nn_89, ↓nn_90, ↓nn_91, ↓nn_92, ↓nn_93, ↓nn_94, ↓nn_95, ↓nn_96, ↓nn_97, ↓nn_98, ↓nn_99, ↓nn_100, ↓nn_101, ↓nn_102, ↓nn_103, ↓nn_104, ↓nn_105, ↓nn_106, ↓nn_107, ↓nn_108, p_bs, p_rq0, p_rq1, p_rz0, p_rz1, p_us, p_un, p_uj, ↓reduceIte, this, show Int32.ofNat 0 = 0 from rfl]
theorem m_back (h' : v_V A' I' X') : ∃ r' I1' J' X1' D', F_X11_back 36 (I', X') = some (r', (I1', X1')) ∧ F_X12_back 87 (I1', X1') = some (r', (J', X1')) ∧ v_V (A'.1, A'.2.1, D', A'.2.2.2) J' X1' := by
  obtain ⟨hB', hS', hT', hH', hN', hP', hG', hC', hL', hLH', hW', hD', hF'⟩ := id h'
  obtain ⟨pc', p1', p2', p3'⟩ := id hG'
  cases pc'
  · refine ⟨-1, I', _, X', A'.2.2.1, ?_, ?_, v_thr h'⟩
    · unfold F_X11_back F_X6_showPicture
      simp (disch := omega) only [↓ce_36 hB', rf_36 hB', ↓ce_53 hB', rf_53 hB', ↓ce_57 hB', rf_57 hB', ↓nn_38, ↓nn_40, ↓nn_45, ↓nn_50, ↓nn_52, ↓nn_53, ↓nn_54, ↓nn_55, ↓nn_56, ↓nn_58, ↓nn_59, ↓nn_60, ↓nn_61, ↓nn_62, ↓nn_64, ↓nn_67, ↓nn_68, ↓nn_84, p_bs, p_rq0, p_rq1, p_rz0, p_rz1, p_us, p_un, p_uj, ↓reduceIte, p1', t_b0]
    · unfold F_X12_back
      simp (disch := omega) only [↓ce_87 hB', rf_87 hB', ↓nn_31, ↓nn_33, ↓nn_89, ↓nn_90, ↓nn_91, ↓nn_92, ↓nn_93, ↓nn_94, ↓nn_95, ↓nn_96, ↓nn_97, ↓nn_98, ↓nn_99, ↓nn_100, ↓nn_101, ↓nn_102, ↓nn_103, ↓nn_104, ↓nn_105, ↓nn_106, ↓nn_107, ↓nn_108, p_bs, p_rq0, p_rq1, p_rz0, p_rz1, p_us, p_un, p_uj, ↓reduceIte, p2', t_b0]
  · obtain ⟨hz', D', hR'⟩ := p3' rfl
    obtain ⟨k', m', dd', q1', q2', q3', q4', q5', q6', q7', q8'⟩ := hP'
    obtain ⟨I1', a1', a2', a3'⟩ := s_copyFrom (I' := I') (k1' := 53) (k2' := 61) hB' (by omega) (by omega)
    have hcp' : ∀ (f' : q_Mem → Option (Int32 × q_Mem)), q_cp (I1', X') 60 0 59 0 384 f' = f' (va_up I1' 59 (va_cpy (I1' 60) (I1' 59) 0 0 384), X') := fun f' => s_cp (sh_60 hB') (sh_59 hB') (by decide) (by decide) 0 0 384 (by decide) (by decide) (by decide) (by decide) (by decide) f'
    have k1' : ∀ c', c' ≠ 57 → c' ≠ 59 → c' ≠ 54 → q_u2 (va_up I1' 59 (va_cpy (I1' 60) (I1' 59) 0 0 384)) 57 6 0 c' = I' c' := fun c' h1' h2' h3' => by rw [p_uc _ _ _ _ _ h1', p_ucp _ _ _ _ h2']; exact a2' c' h3'
    have k57' : ∀ j', j' ≠ 6 → q_u2 (va_up I1' 59 (va_cpy (I1' 60) (I1' 59) 0 0 384)) 57 6 0 57 j' = I' 57 j' := fun j' hj' => by rw [p_uj _ _ _ _ _ hj', p_ucp _ _ _ _ (by decide), a2' 57 (by decide)]
    have k576 : q_u2 (va_up I1' 59 (va_cpy (I1' 60) (I1' 59) 0 0 384)) 57 6 0 57 6 = 0 := p_us _ _ _ _
    have k54' : ∀ j', j' < 31 → q_u2 (va_up I1' 59 (va_cpy (I1' 60) (I1' 59) 0 0 384)) 57 6 0 54 j' = I' 62 j' := fun j' hj' => by rw [p_uc _ _ _ _ _ (by decide), p_ucp _ _ _ _ (by decide)]; exact a3' j' hj'
    have k59' : ∀ x', x' < 384 → q_u2 (va_up I1' 59 (va_cpy (I1' 60) (I1' 59) 0 0 384)) 57 6 0 59 x' = I' 60 x' := fun x' hx' => by
      rw [p_uc _ _ _ _ _ (by decide), p_usp]
      unfold va_cpy
      rw [if_pos ⟨by omega, by omega⟩, a2' 60 (by decide)]
      congr 1
      omega
    have hcl' : F_X11_back 36 (I', X') = some (I' 62 0, (q_u2 (va_up I1' 59 (va_cpy (I1' 60) (I1' 59) 0 0 384)) 57 6 0, X')) := by
      have e0' := k54' 0 (by decide)
      unfold F_X11_back F_X6_showPicture
      simp (disch := omega) only [↓ce_36 hB', rf_36 hB', ↓ce_53 hB', rf_53 hB', ↓ce_54 hB', ↓ce_57 hB', rf_57 hB', ↓ce_59 hB', ↓ce_61 hB', rf_61 hB', ↓nn_38, ↓nn_40, ↓nn_45, ↓nn_50, ↓nn_52, ↓nn_53, ↓nn_54, ↓nn_55, ↓nn_56, ↓nn_58, ↓nn_59, ↓nn_60, ↓nn_61, ↓nn_62, ↓nn_63, ↓nn_64, ↓nn_67, ↓nn_68, ↓nn_84, p_bs, p_rq0, p_rq1, p_rz0, p_rz1, p_us, p_un, p_uj, ↓reduceIte, p1', t_b0, Bool.true_eq_false, a1', hcp', e0', show ((1 : Int32) = 0) = False from by decide]
    generalize q_u2 (va_up I1' 59 (va_cpy (I1' 60) (I1' 59) 0 0 384)) 57 6 0 = I2' at *
    obtain ⟨J', j1', j2', j3'⟩ := s_backLp (I' := q_u2 I2' 87 0 0) hB'
    have g49' : I2' 87 49 = t_b true := by rw [k1' 87 (by decide) (by decide) (by decide)]; exact p2'
    have f' : ∀ c', c' ≠ 57 → c' ≠ 59 → c' ≠ 54 → c' ≠ 87 → c' ≠ 100 → q_u2 J' 87 42 0 c' = I' c' := fun c' h1' h2' h3' h4' h5' => by rw [p_uc _ _ _ _ _ h4', j2' c' h5', p_uc _ _ _ _ _ h4']; exact k1' c' h1' h2' h3'
    have g' : ∀ c', c' ≠ 87 → c' ≠ 100 → q_u2 J' 87 42 0 c' = I2' c' := fun c' h1' h2' => by rw [p_uc _ _ _ _ _ h1', j2' c' h2', p_uc _ _ _ _ _ h1']
    have g87' : ∀ j', j' ≠ 0 → j' ≠ 42 → q_u2 J' 87 42 0 87 j' = I' 87 j' := fun j' h1' h2' => by rw [p_uj _ _ _ _ _ h2', j2' 87 (by decide), p_uj _ _ _ _ _ h1', k1' 87 (by decide) (by decide) (by decide)]
    have e35' : J' 100 35 = I' 62 0 := by rw [j3' 35 (by decide), p_uc _ _ _ _ _ (by decide), k1' 107 (by decide) (by decide) (by decide)]; exact hR'.2.1.1.2.2.2
    refine ⟨I' 62 0, I2', q_u2 J' 87 42 0, X', D', hcl', ?_, v_reb h' (fun c' z1' z2' z3' z4' z5' z6' z7' z8' z9' z10' => f' c' z2' z4' z1' z7' z8') (fun j' z1' z2' z3' => g87' j' z1' z2') ⟨fun _ => ?_, fun h' => absurd (hz'.symm.trans h') (by decide)⟩ ⟨0, m', fun _ => D', by omega, q2', by rw [g' 57 (by decide) (by decide)]; exact k576, by rw [g' 57 (by decide) (by decide), k57' 5 (by decide)]; exact q4', p_us _ _ _ _, fun _ => rfl, rfl, fun j' hj' => absurd hj' (by omega)⟩ (v_Gk hG' (by rw [g' 57 (by decide) (by decide)]; exact k57' 4 (by decide)) (f' _ (by decide) (by decide) (by decide) (by decide) (by decide)) (f' _ (by decide) (by decide) (by decide) (by decide) (by decide)) (f' _ (by decide) (by decide) (by decide) (by decide) (by decide)) (g87' _ (by decide) (by decide)))⟩
    · unfold F_X12_back
      simp (disch := omega) only [↓ce_87 hB', rf_87 hB', ↓ce_100 hB', ↓nn_31, ↓nn_33, ↓nn_89, ↓nn_90, ↓nn_91, ↓nn_92, ↓nn_93, ↓nn_94, ↓nn_95, ↓nn_96, ↓nn_97, ↓nn_98, ↓nn_99, ↓nn_100, ↓nn_101, ↓nn_102, ↓nn_103, ↓nn_104, ↓nn_105, ↓nn_106, ↓nn_107, ↓nn_108, p_bs, p_rq0, p_rq1, p_rz0, p_rz1, p_us, p_un, p_uj, ↓reduceIte, g49', t_b0, Bool.true_eq_false, j1', e35']
    · refine v_Rlg (lg' := I' 60) ?_ (fun x' q' hq' h1' h2' => ?_)
      · refine v_Ra hR' (fun i' hi' => ?_) (fun i' hi' => ?_)
        · rw [g' 54 (by decide) (by decide)]; exact k54' i' hi'
        · rw [p_uc _ _ _ _ _ (by decide), j3' i' hi', p_uc _ _ _ _ _ (by decide), k1' 107 (by decide) (by decide) (by decide)]
      · rw [g' 59 (by decide) (by decide)]; exact k59' _ (by omega)
end PB'
