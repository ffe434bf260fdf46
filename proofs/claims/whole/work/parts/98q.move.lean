/-! text: a house is moved into (laid by wip/whole/gen98q.py) -/
section PV'
variable {X' : p_X} {I' : p_I}
theorem s_mv1 (hB' : p_B X') : ∃ J', q_lp (fun z' => B_X12_text_223 87 z'.1 z'.2) q_fu ((0 : Int32), (I', X')) = some (J', X') ∧ (∀ c', c' ≠ 92 → J' c' = I' c') ∧ (∀ j', j' < 3 → J' 92 j' = I' 93 j') := by
  obtain ⟨z', h1', J', rfl, j1', j2'⟩ := p_lp (fun z' => B_X12_text_223 87 z'.1 z'.2) (fun i' z' => ∃ J', z' = (Int32.ofNat i', (J', X')) ∧ (∀ c', c' ≠ 92 → J' c' = I' c') ∧ (∀ j', j' < i' → J' 92 j' = I' 93 j'))
    (fun z' => ∃ J', z' = (J', X') ∧ (∀ c', c' ≠ 92 → J' c' = I' c') ∧ (∀ j', j' < 3 → J' 92 j' = I' 93 j')) 3 (by
      rintro i' z' hi' ⟨J', rfl, j1', j2'⟩
      have hl' : (Int32.ofNat i' < 3) = (i' < 3) := p_lt i' 3 (by omega) (by decide)
      unfold B_X12_text_223
      by_cases hlt' : i' < 3
      · left
        simp (disch := omega) only [↓ce_87 hB', rf_87 hB', ↓ce_93 hB', ↓ce_92 hB', ↓nn_31, ↓nn_33, ↓nn_89, ↓nn_90, ↓nn_91, ↓nn_92, ↓nn_93, ↓nn_94, ↓nn_95, ↓nn_96, ↓nn_97, ↓nn_98, ↓nn_99, ↓nn_100, ↓nn_101, ↓nn_102, ↓nn_103, ↓nn_104, ↓nn_105, ↓nn_106, ↓nn_107, ↓nn_108, p_bs, p_rq0, p_rq1, p_rz0, p_rz1, p_us, p_un, p_uj, ↓reduceIte, hl', hlt', p_ar]
        refine ⟨_, rfl, True.intro, _, rfl, fun c' hc' => by rw [p_uc _ _ _ _ _ hc']; exact j1' c' hc', fun j' hj' => ?_⟩
        by_cases e' : j' = i'
        · subst e'; rw [p_us, j1' 93 (by decide)]
        · rw [p_uj _ _ _ _ _ (by omega)]; exact j2' j' (by omega)
      · right
        have hi'' : i' = 3 := by omega
        subst hi''
        simp (disch := omega) only [p_bs, p_rq0, p_rq1, p_rz0, p_rz1, p_us, p_un, p_uj, ↓reduceIte, hl', Nat.lt_irrefl]
        exact ⟨_, rfl, J', rfl, j1', j2'⟩) 3 0 q_fu (0, (I', X')) (by omega) (by unfold q_fu; omega) ⟨I', rfl, fun _ _ => rfl, fun j' hj' => absurd hj' (by omega)⟩
  exact ⟨J', h1', j1', j2'⟩
theorem s_mv2 (hB' : p_B X') : ∃ J', q_lp (fun z' => B_X12_text_248 87 z'.1 z'.2) q_fu ((0 : Int32), (I', X')) = some (J', X') ∧ (∀ c', c' ≠ 94 → J' c' = I' c') ∧ (∀ j', j' < 15 → J' 94 j' = I' 95 j') := by
  obtain ⟨z', h1', J', rfl, j1', j2'⟩ := p_lp (fun z' => B_X12_text_248 87 z'.1 z'.2) (fun i' z' => ∃ J', z' = (Int32.ofNat i', (J', X')) ∧ (∀ c', c' ≠ 94 → J' c' = I' c') ∧ (∀ j', j' < i' → J' 94 j' = I' 95 j'))
    (fun z' => ∃ J', z' = (J', X') ∧ (∀ c', c' ≠ 94 → J' c' = I' c') ∧ (∀ j', j' < 15 → J' 94 j' = I' 95 j')) 15 (by
      rintro i' z' hi' ⟨J', rfl, j1', j2'⟩
      have hl' : (Int32.ofNat i' < 15) = (i' < 15) := p_lt i' 15 (by omega) (by decide)
      unfold B_X12_text_248
      by_cases hlt' : i' < 15
      · left
        simp (disch := omega) only [↓ce_87 hB', rf_87 hB', ↓ce_95 hB', ↓ce_94 hB', ↓nn_31, ↓nn_33, ↓nn_89, ↓nn_90, ↓nn_91, ↓nn_92, ↓nn_93, ↓nn_94, ↓nn_95, ↓nn_96, ↓nn_97, ↓nn_98, ↓nn_99, ↓nn_100, ↓nn_101, ↓nn_102, ↓nn_103, ↓nn_104, ↓nn_105, ↓nn_106, ↓nn_107, ↓nn_108, p_bs, p_rq0, p_rq1, p_rz0, p_rz1, p_us, p_un, p_uj, ↓reduceIte, hl', hlt', p_ar]
        refine ⟨_, rfl, True.intro, _, rfl, fun c' hc' => by rw [p_uc _ _ _ _ _ hc']; exact j1' c' hc', fun j' hj' => ?_⟩
        by_cases e' : j' = i'
        · subst e'; rw [p_us, j1' 95 (by decide)]
        · rw [p_uj _ _ _ _ _ (by omega)]; exact j2' j' (by omega)
      · right
        have hi'' : i' = 15 := by omega
        subst hi''
        simp (disch := omega) only [p_bs, p_rq0, p_rq1, p_rz0, p_rz1, p_us, p_un, p_uj, ↓reduceIte, hl', Nat.lt_irrefl]
        exact ⟨_, rfl, J', rfl, j1', j2'⟩) 15 0 q_fu (0, (I', X')) (by omega) (by unfold q_fu; omega) ⟨I', rfl, fun _ _ => rfl, fun j' hj' => absurd hj' (by omega)⟩
  exact ⟨J', h1', j1', j2'⟩
theorem s_mv3 (hB' : p_B X') : ∃ J', q_lp (fun z' => B_X12_text_274 87 z'.1 z'.2) q_fu ((0 : Int32), (I', X')) = some (J', X') ∧ (∀ c', c' ≠ 96 → J' c' = I' c') ∧ (∀ j', j' < 24 → J' 96 j' = I' 97 j') := by
  obtain ⟨z', h1', J', rfl, j1', j2'⟩ := p_lp (fun z' => B_X12_text_274 87 z'.1 z'.2) (fun i' z' => ∃ J', z' = (Int32.ofNat i', (J', X')) ∧ (∀ c', c' ≠ 96 → J' c' = I' c') ∧ (∀ j', j' < i' → J' 96 j' = I' 97 j'))
    (fun z' => ∃ J', z' = (J', X') ∧ (∀ c', c' ≠ 96 → J' c' = I' c') ∧ (∀ j', j' < 24 → J' 96 j' = I' 97 j')) 24 (by
      rintro i' z' hi' ⟨J', rfl, j1', j2'⟩
      have hl' : (Int32.ofNat i' < 24) = (i' < 24) := p_lt i' 24 (by omega) (by decide)
      unfold B_X12_text_274
      by_cases hlt' : i' < 24
      · left
        simp (disch := omega) only [↓ce_87 hB', rf_87 hB', ↓ce_97 hB', ↓ce_96 hB', ↓nn_31, ↓nn_33, ↓nn_89, ↓nn_90, ↓nn_91, ↓nn_92, ↓nn_93, ↓nn_94, ↓nn_95, ↓nn_96, ↓nn_97, ↓nn_98, ↓nn_99, ↓nn_100, ↓nn_101, ↓nn_102, ↓nn_103, ↓nn_104, ↓nn_105, ↓nn_106, ↓nn_107, ↓nn_108, p_bs, p_rq0, p_rq1, p_rz0, p_rz1, p_us, p_un, p_uj, ↓reduceIte, hl', hlt', p_ar]
        refine ⟨_, rfl, True.intro, _, rfl, fun c' hc' => by rw [p_uc _ _ _ _ _ hc']; exact j1' c' hc', fun j' hj' => ?_⟩
        by_cases e' : j' = i'
        · subst e'; rw [p_us, j1' 97 (by decide)]
        · rw [p_uj _ _ _ _ _ (by omega)]; exact j2' j' (by omega)
      · right
        have hi'' : i' = 24 := by omega
        subst hi''
        simp (disch := omega) only [p_bs, p_rq0, p_rq1, p_rz0, p_rz1, p_us, p_un, p_uj, ↓reduceIte, hl', Nat.lt_irrefl]
        exact ⟨_, rfl, J', rfl, j1', j2'⟩) 24 0 q_fu (0, (I', X')) (by omega) (by unfold q_fu; omega) ⟨I', rfl, fun _ _ => rfl, fun j' hj' => absurd hj' (by omega)⟩
  exact ⟨J', h1', j1', j2'⟩
theorem s_mv4 (hB' : p_B X') : ∃ J', q_lp (fun z' => B_X12_text_300 87 z'.1 z'.2) q_fu ((0 : Int32), (I', X')) = some (J', X') ∧ (∀ c', c' ≠ 100 → J' c' = I' c') ∧ (∀ j', j' < 217 → J' 100 j' = 0) := by
  obtain ⟨z', h1', J', rfl, j1', j2'⟩ := p_lp (fun z' => B_X12_text_300 87 z'.1 z'.2) (fun i' z' => ∃ J', z' = (Int32.ofNat i', (J', X')) ∧ (∀ c', c' ≠ 100 → J' c' = I' c') ∧ (∀ j', j' < i' → J' 100 j' = 0))
    (fun z' => ∃ J', z' = (J', X') ∧ (∀ c', c' ≠ 100 → J' c' = I' c') ∧ (∀ j', j' < 217 → J' 100 j' = 0)) 217 (by
      rintro i' z' hi' ⟨J', rfl, j1', j2'⟩
      have hl' : (Int32.ofNat i' < 217) = (i' < 217) := p_lt i' 217 (by omega) (by decide)
      unfold B_X12_text_300
      by_cases hlt' : i' < 217
      · left
        simp (disch := omega) only [↓ce_87 hB', rf_87 hB', ↓ce_100 hB', ↓nn_31, ↓nn_33, ↓nn_89, ↓nn_90, ↓nn_91, ↓nn_92, ↓nn_93, ↓nn_94, ↓nn_95, ↓nn_96, ↓nn_97, ↓nn_98, ↓nn_99, ↓nn_100, ↓nn_101, ↓nn_102, ↓nn_103, ↓nn_104, ↓nn_105, ↓nn_106, ↓nn_107, ↓nn_108, p_bs, p_rq0, p_rq1, p_rz0, p_rz1, p_us, p_un, p_uj, ↓reduceIte, hl', hlt', p_ar]
        refine ⟨_, rfl, True.intro, _, rfl, fun c' hc' => by rw [p_uc _ _ _ _ _ hc']; exact j1' c' hc', fun j' hj' => ?_⟩
        by_cases e' : j' = i'
        · subst e'; rw [p_us]
        · rw [p_uj _ _ _ _ _ (by omega)]; exact j2' j' (by omega)
      · right
        have hi'' : i' = 217 := by omega
        subst hi''
        simp (disch := omega) only [p_bs, p_rq0, p_rq1, p_rz0, p_rz1, p_us, p_un, p_uj, ↓reduceIte, hl', Nat.lt_irrefl]
        exact ⟨_, rfl, J', rfl, j1', j2'⟩) 217 0 q_fu (0, (I', X')) (by omega) (by unfold q_fu; omega) ⟨I', rfl, fun _ _ => rfl, fun j' hj' => absurd hj' (by omega)⟩
  exact ⟨J', h1', j1', j2'⟩
theorem s_fill (hB' : p_B X') : ∃ J', q_lp (fun z' => B_J7_fill_53178_5 54 0 (Int32.ofNat 31) z'.1 z'.2) q_fu ((0 : Int32), (I', X')) = some (J', X') ∧ (∀ c', c' ≠ 54 → J' c' = I' c') ∧ (∀ j', j' < 31 → J' 54 j' = 0) := by
  obtain ⟨z', h1', J', rfl, j1', j2'⟩ := p_lp (fun z' => B_J7_fill_53178_5 54 0 (Int32.ofNat 31) z'.1 z'.2) (fun i' z' => ∃ J', z' = (Int32.ofNat i', (J', X')) ∧ (∀ c', c' ≠ 54 → J' c' = I' c') ∧ (∀ j', j' < i' → J' 54 j' = 0))
    (fun z' => ∃ J', z' = (J', X') ∧ (∀ c', c' ≠ 54 → J' c' = I' c') ∧ (∀ j', j' < 31 → J' 54 j' = 0)) 31 (by
      rintro i' z' hi' ⟨J', rfl, j1', j2'⟩
      have hl' : (Int32.ofNat i' < Int32.ofNat 31) = (i' < 31) := p_lt i' 31 (by omega) (by decide)
      unfold B_J7_fill_53178_5
      by_cases hlt' : i' < 31
      · left
        simp (disch := omega) only [↓ce_54 hB', p_bs, p_rq0, p_rq1, p_rz0, p_rz1, p_us, p_un, p_uj, ↓reduceIte, hl', hlt', p_ar]
        refine ⟨_, rfl, True.intro, _, rfl, fun c' hc' => by rw [p_uc _ _ _ _ _ hc']; exact j1' c' hc', fun j' hj' => ?_⟩
        by_cases e' : j' = i'
        · subst e'; rw [p_us]
        · rw [p_uj _ _ _ _ _ (by omega)]; exact j2' j' (by omega)
      · right
        have hi'' : i' = 31 := by omega
        subst hi''
        simp (disch := omega) only [p_bs, p_rq0, p_rq1, p_rz0, p_rz1, p_us, p_un, p_uj, ↓reduceIte, hl', Nat.lt_irrefl]
        exact ⟨_, rfl, J', rfl, j1', j2'⟩) 31 0 q_fu (0, (I', X')) (by omega) (by unfold q_fu; omega) ⟨I', rfl, fun _ _ => rfl, fun j' hj' => absurd hj' (by omega)⟩
  exact ⟨J', h1', j1', j2'⟩
theorem s_mv5 (hB' : p_B X') {ng' : Nat} (hng' : ng' ≤ 6) (h27' : I' 87 27 = Int32.ofNat ng') : ∃ J', q_lp (fun z' => B_X12_text_322 87 z'.1 z'.2) q_fu ((0 : Int32), (I', X')) = some (J', X') ∧ (∀ c', c' ≠ 100 → J' c' = I' c') ∧ (∀ g', g' < ng' → J' 100 (4 * g') = I' 96 (4 * g' + 1) ∧ J' 100 (4 * g' + 1) = I' 96 (4 * g' + 2)) ∧ (∀ j', ¬ (∃ g', g' < ng' ∧ (j' = 4 * g' ∨ j' = 4 * g' + 1)) → J' 100 j' = I' 100 j') := by
  obtain ⟨z', h1', J', rfl, j1', j2', j3'⟩ := p_lp (fun z' => B_X12_text_322 87 z'.1 z'.2) (fun i' z' => ∃ J', z' = (Int32.ofNat i', (J', X')) ∧ (∀ c', c' ≠ 100 → J' c' = I' c') ∧ (∀ g', g' < i' → J' 100 (4 * g') = I' 96 (4 * g' + 1) ∧ J' 100 (4 * g' + 1) = I' 96 (4 * g' + 2)) ∧ (∀ j', ¬ (∃ g', g' < i' ∧ (j' = 4 * g' ∨ j' = 4 * g' + 1)) → J' 100 j' = I' 100 j'))
    (fun z' => ∃ J', z' = (J', X') ∧ (∀ c', c' ≠ 100 → J' c' = I' c') ∧ (∀ g', g' < ng' → J' 100 (4 * g') = I' 96 (4 * g' + 1) ∧ J' 100 (4 * g' + 1) = I' 96 (4 * g' + 2)) ∧ (∀ j', ¬ (∃ g', g' < ng' ∧ (j' = 4 * g' ∨ j' = 4 * g' + 1)) → J' 100 j' = I' 100 j')) ng' (by
      rintro i' z' hi' ⟨J', rfl, j1', j2', j3'⟩
      have hl' : (Int32.ofNat i' < Int32.ofNat ng') = (i' < ng') := p_lt i' ng' (by omega) (by omega)
      have l27' : J' 87 27 = Int32.ofNat ng' := by rw [j1' 87 (by decide)]; exact h27'
      unfold B_X12_text_322
      by_cases hlt' : i' < ng'
      · left
        refine ⟨(Int32.ofNat (i' + 1), (q_u2 (q_u2 J' 100 (4 * i' + 0) (I' 96 (4 * i' + 1))) 100 (4 * i' + 1) (I' 96 (4 * i' + 2)), X')), ?_, hlt', _, rfl, fun c' hc' => by rw [p_uc _ _ _ _ _ hc', p_uc _ _ _ _ _ hc']; exact j1' c' hc', fun g' hg' => ?_, fun j' hj' => ?_⟩
        · have e96' : ∀ v', q_u2 J' 100 (4 * i' + 0) v' 96 (4 * i' + 2) = I' 96 (4 * i' + 2) := fun v' => by rw [p_uc _ _ _ _ _ (by decide), j1' 96 (by decide)]
          have e961 : J' 96 (4 * i' + 1) = I' 96 (4 * i' + 1) := by rw [j1' 96 (by decide)]
          simp (disch := omega) only [↓ce_87 hB', rf_87 hB', ↓ce_96 hB', ↓ce_100 hB', ↓nn_31, ↓nn_33, ↓nn_89, ↓nn_90, ↓nn_91, ↓nn_92, ↓nn_93, ↓nn_94, ↓nn_95, ↓nn_96, ↓nn_97, ↓nn_98, ↓nn_99, ↓nn_100, ↓nn_101, ↓nn_102, ↓nn_103, ↓nn_104, ↓nn_105, ↓nn_106, ↓nn_107, ↓nn_108, p_bs, p_rq0, p_rq1, p_rz0, p_rz1, p_us, p_un, p_uj, ↓reduceIte, l27', hl', hlt', p_ar, e961, e96']
        · by_cases e' : g' = i'
          · subst e'
            exact ⟨by rw [p_uj _ _ _ _ _ (by omega)]; exact p_us _ _ _ _, p_us _ _ _ _⟩
          · rw [p_uj _ _ _ _ _ (by omega), p_uj _ _ _ _ _ (by omega), p_uj _ _ _ _ _ (by omega), p_uj _ _ _ _ _ (by omega)]
            exact j2' g' (by omega)
        · have n1' : j' ≠ 4 * i' + 1 := fun e' => hj' ⟨i', by omega, .inr e'⟩
          have n2' : j' ≠ 4 * i' + 0 := fun e' => hj' ⟨i', by omega, .inl e'⟩
          rw [p_uj _ _ _ _ _ n1', p_uj _ _ _ _ _ n2']
          exact j3' j' (fun ⟨g', h1', h2'⟩ => hj' ⟨g', by omega, h2'⟩)
      · right
        have hi'' : i' = ng' := by omega
        subst hi''
        simp (disch := omega) only [↓ce_87 hB', rf_87 hB', ↓nn_31, ↓nn_33, ↓nn_89, ↓nn_90, ↓nn_91, ↓nn_92, ↓nn_93, ↓nn_94, ↓nn_95, ↓nn_96, ↓nn_97, ↓nn_98, ↓nn_99, ↓nn_100, ↓nn_101, ↓nn_102, ↓nn_103, ↓nn_104, ↓nn_105, ↓nn_106, ↓nn_107, ↓nn_108, p_bs, p_rq0, p_rq1, p_rz0, p_rz1, p_us, p_un, p_uj, ↓reduceIte, l27', hl', Nat.lt_irrefl]
        exact ⟨_, rfl, J', rfl, j1', j2', j3'⟩) ng' 0 q_fu (0, (I', X')) (by omega) (by unfold q_fu; omega) ⟨I', rfl, fun _ _ => rfl, fun g' hg' => absurd hg' (by omega), fun _ _ => rfl⟩
  exact ⟨J', h1', j1', j2', j3'⟩
theorem s_bg (hB' : p_B X') {ng' : Nat} (hng' : ng' ≤ 6) (h5' : I' 39 5 = Int32.ofNat ng') : ∃ J', q_lp (fun z' => B_X8_begin_41 53 39 z'.1 z'.2) q_fu ((0 : Int32), (I', X')) = some (J', X') ∧ (∀ c', c' ≠ 54 → J' c' = I' c') ∧ (∀ g', g' < ng' → J' 54 (13 + g') = I' 42 (g' * 4 + 1) ∧ J' 54 (19 + g') = I' 42 (g' * 4 + 2)) ∧ (∀ j', ¬ (∃ g', g' < ng' ∧ (j' = 13 + g' ∨ j' = 19 + g')) → J' 54 j' = I' 54 j') := by
  have hgo' : ∀ (J' : p_I) (g' w' : Nat), (∀ c', c' ≠ 54 → J' c' = I' c') → g' < 6 → w' < 4 → F_X3_ofGuest 39 (Int32.ofNat g') (Int32.ofNat w') (J', X') = some (I' 42 (g' * 4 + w')) := fun J' g' w' hJ' hg' hw' => by
    have e42' : J' 42 = I' 42 := hJ' 42 (by decide)
    unfold F_X3_ofGuest
    simp (disch := omega) only [↓ce_39 hB', rf_39 hB', ↓ce_42 hB', ↓nn_41, ↓nn_42, ↓nn_43, ↓nn_44, p_bs, p_rq0, p_rq1, p_rz0, p_rz1, p_us, p_un, p_uj, ↓reduceIte, p_ar, p_cm]
    rw [if_neg (by omega), if_pos (by omega)]
    simp (disch := omega) only [↓ce_39 hB', rf_39 hB', ↓ce_42 hB', ↓nn_41, ↓nn_42, ↓nn_43, ↓nn_44, p_bs, p_rq0, p_rq1, p_rz0, p_rz1, p_us, p_un, p_uj, ↓reduceIte, e42']
  obtain ⟨z', h1', J', rfl, j1', j2', j3'⟩ := p_lp (fun z' => B_X8_begin_41 53 39 z'.1 z'.2) (fun i' z' => ∃ J', z' = (Int32.ofNat i', (J', X')) ∧ (∀ c', c' ≠ 54 → J' c' = I' c') ∧ (∀ g', g' < i' → J' 54 (13 + g') = I' 42 (g' * 4 + 1) ∧ J' 54 (19 + g') = I' 42 (g' * 4 + 2)) ∧ (∀ j', ¬ (∃ g', g' < i' ∧ (j' = 13 + g' ∨ j' = 19 + g')) → J' 54 j' = I' 54 j'))
    (fun z' => ∃ J', z' = (J', X') ∧ (∀ c', c' ≠ 54 → J' c' = I' c') ∧ (∀ g', g' < ng' → J' 54 (13 + g') = I' 42 (g' * 4 + 1) ∧ J' 54 (19 + g') = I' 42 (g' * 4 + 2)) ∧ (∀ j', ¬ (∃ g', g' < ng' ∧ (j' = 13 + g' ∨ j' = 19 + g')) → J' 54 j' = I' 54 j')) ng' (by
      rintro i' z' hi' ⟨J', rfl, j1', j2', j3'⟩
      have hl' : (Int32.ofNat i' < Int32.ofNat ng') = (i' < ng') := p_lt i' ng' (by omega) (by omega)
      have l5' : J' 39 5 = Int32.ofNat ng' := by rw [j1' 39 (by decide)]; exact h5'
      unfold B_X8_begin_41
      by_cases hlt' : i' < ng'
      · left
        have h6' : (Int32.ofNat i' < 6) = True := by
          rw [show (6 : Int32) = Int32.ofNat 6 from rfl, p_lt i' 6 (by omega) (by decide)]
          apply eq_true; omega
        have o1' : F_X3_ofGuest 39 (Int32.ofNat i') 1 (J', X') = some (I' 42 (i' * 4 + 1)) := hgo' J' i' 1 j1' (by omega) (by decide)
        have o2' : F_X3_ofGuest 39 (Int32.ofNat i') 2 (q_u2 J' 54 (13 + i') (I' 42 (i' * 4 + 1)), X') = some (I' 42 (i' * 4 + 2)) := hgo' _ i' 2 (fun c' hc' => by rw [p_uc _ _ _ _ _ hc']; exact j1' c' hc') (by omega) (by decide)
        have x1' : (13 : Int32) + Int32.ofNat i' = Int32.ofNat (13 + i') := (Int32.ofNat_add 13 i').symm
        have x2' : (19 : Int32) + Int32.ofNat i' = Int32.ofNat (19 + i') := (Int32.ofNat_add 19 i').symm
        refine ⟨(Int32.ofNat (i' + 1), (q_u2 (q_u2 J' 54 (13 + i') (I' 42 (i' * 4 + 1))) 54 (19 + i') (I' 42 (i' * 4 + 2)), X')), ?_, hlt', _, rfl, fun c' hc' => by rw [p_uc _ _ _ _ _ hc', p_uc _ _ _ _ _ hc']; exact j1' c' hc', fun g' hg' => ?_, fun j' hj' => ?_⟩
        · simp (disch := omega) only [↓ce_39 hB', rf_39 hB', ↓ce_53 hB', rf_53 hB', ↓ce_54 hB', ↓nn_41, ↓nn_42, ↓nn_43, ↓nn_44, ↓nn_55, p_bs, p_rq0, p_rq1, p_rz0, p_rz1, p_us, p_un, p_uj, ↓reduceIte, l5', hl', hlt', h6', o1', x1']
          simp (disch := omega) only [↓ce_39 hB', rf_39 hB', ↓ce_53 hB', rf_53 hB', ↓ce_54 hB', ↓nn_41, ↓nn_42, ↓nn_43, ↓nn_44, ↓nn_55, p_bs, p_rq0, p_rq1, p_rz0, p_rz1, p_us, p_un, p_uj, ↓reduceIte, o2', x2', p_ar]
        · by_cases e' : g' = i'
          · subst e'
            exact ⟨by rw [p_uj _ _ _ _ _ (by omega)]; exact p_us _ _ _ _, p_us _ _ _ _⟩
          · rw [p_uj _ _ _ _ _ (by omega), p_uj _ _ _ _ _ (by omega), p_uj _ _ _ _ _ (by omega), p_uj _ _ _ _ _ (by omega)]
            exact j2' g' (by omega)
        · have n1' : j' ≠ 19 + i' := fun e' => hj' ⟨i', by omega, .inr e'⟩
          have n2' : j' ≠ 13 + i' := fun e' => hj' ⟨i', by omega, .inl e'⟩
          rw [p_uj _ _ _ _ _ n1', p_uj _ _ _ _ _ n2']
          exact j3' j' (fun ⟨g', h1', h2'⟩ => hj' ⟨g', by omega, h2'⟩)
      · right
        have hi'' : i' = ng' := by omega
        subst hi''
        simp (disch := omega) only [↓ce_39 hB', rf_39 hB', ↓nn_41, ↓nn_42, ↓nn_43, ↓nn_44, p_bs, p_rq0, p_rq1, p_rz0, p_rz1, p_us, p_un, p_uj, ↓reduceIte, l5', hl', Nat.lt_irrefl]
        exact ⟨_, rfl, J', rfl, j1', j2', j3'⟩) ng' 0 q_fu (0, (I', X')) (by omega) (by unfold q_fu; omega) ⟨I', rfl, fun _ _ => rfl, fun g' hg' => absurd hg' (by omega), fun _ _ => rfl⟩
  exact ⟨J', h1', j1', j2', j3'⟩
theorem s_begin (hB' : p_B X') {ng' : Nat} (hng' : ng' ≤ 6) (h5' : I' 39 5 = Int32.ofNat ng') : ∃ J', F_X8_begin 53 39 (I', X') = some ((), (J', X')) ∧ (∀ c', c' ≠ 54 → J' c' = I' c') ∧ (∀ g', g' < ng' → J' 54 (13 + g') = I' 42 (g' * 4 + 1) ∧ J' 54 (19 + g') = I' 42 (g' * 4 + 2)) ∧ J' 54 1 = I' 40 0 ∧ J' 54 2 = I' 40 2 ∧ J' 54 3 = -1 ∧ (∀ j', j' < 31 → j' ≠ 1 → j' ≠ 2 → j' ≠ 3 → ¬ (∃ g', g' < ng' ∧ (j' = 13 + g' ∨ j' = 19 + g')) → J' 54 j' = 0) := by
  obtain ⟨K', a1', a2', a3'⟩ := s_fill (I' := I') hB'
  have e40' : K' 40 0 = I' 40 0 := by rw [a2' 40 (by decide)]
  have e402 : ∀ v', q_u2 K' 54 1 v' 40 2 = I' 40 2 := fun v' => by rw [p_uc _ _ _ _ _ (by decide), a2' 40 (by decide)]
  obtain ⟨K1', hK1'⟩ : ∃ K1', K1' = q_u2 (q_u2 (q_u2 K' 54 1 (I' 40 0)) 54 2 (I' 40 2)) 54 3 (-1) := ⟨_, rfl⟩
  have f1' : ∀ c', c' ≠ 54 → K1' c' = I' c' := fun c' hc' => by rw [hK1', p_uc _ _ _ _ _ hc', p_uc _ _ _ _ _ hc', p_uc _ _ _ _ _ hc']; exact a2' c' hc'
  obtain ⟨J', b1', b2', b3', b4'⟩ := s_bg (I' := K1') hB' hng' (by rw [f1' 39 (by decide)]; exact h5')
  have g1' : ∀ j', j' < 31 → j' ≠ 1 → j' ≠ 2 → j' ≠ 3 → K1' 54 j' = 0 := fun j' z0' z1' z2' z3' => by rw [hK1', p_uj _ _ _ _ _ z3', p_uj _ _ _ _ _ z2', p_uj _ _ _ _ _ z1']; exact a3' j' z0'
  refine ⟨J', ?_, fun c' hc' => by rw [b2' c' hc']; exact f1' c' hc', fun g' hg' => by rw [(b3' g' hg').1, (b3' g' hg').2, f1' 42 (by decide)]; exact ⟨rfl, rfl⟩, ?_, ?_, ?_, fun j' z0' z1' z2' z3' z4' => by rw [b4' j' z4']; exact g1' j' z0' z1' z2' z3'⟩
  · have hal' : ∀ f' : Int32 → Option (Unit × q_Mem), q_al (I', X') 54 f' = f' (Int32.ofNat 31) := fun f' => p_al (sh_54 hB') (by decide) I' f'
    unfold F_X8_begin F_J7_fill_53178
    simp (disch := omega) only [↓ce_53 hB', rf_53 hB', ↓nn_55, p_bs, p_rq0, p_rq1, p_rz0, p_rz1, p_us, p_un, p_uj, ↓reduceIte, hal', a1']
    simp (disch := omega) only [↓ce_39 hB', rf_39 hB', ↓ce_53 hB', rf_53 hB', ↓nn_41, ↓nn_42, ↓nn_43, ↓nn_44, ↓nn_55, p_bs, p_rq0, p_rq1, p_rz0, p_rz1, p_us, p_un, p_uj, ↓reduceIte]
    have l0' : ∀ f' : Int32 → Option (Unit × q_Mem), q_lI (K', X') 0 40 0 f' = f' (K' 40 0) := fun f' => p_lI (sh_40 hB') (by decide) K' 0 f' (by decide)
    have l1' : ∀ (v' : Int32) (f' : q_Mem → Option (Unit × q_Mem)), q_tI (K', X') 54 1 v' f' = f' (q_u2 K' 54 1 v', X') := fun v' f' => p_tI (sh_54 hB') (by decide) (by decide) K' 1 v' f' (by decide)
    have l2' : ∀ (v' : Int32) (f' : Int32 → Option (Unit × q_Mem)), q_lI (q_u2 K' 54 1 v', X') 0 40 2 f' = f' (q_u2 K' 54 1 v' 40 2) := fun v' f' => p_lI (sh_40 hB') (by decide) _ 2 f' (by decide)
    have l3' : ∀ (M' : p_I) (v' : Int32) (f' : q_Mem → Option (Unit × q_Mem)), q_tI (M', X') 54 2 v' f' = f' (q_u2 M' 54 2 v', X') := fun M' v' f' => p_tI (sh_54 hB') (by decide) (by decide) M' 2 v' f' (by decide)
    have l4' : ∀ (M' : p_I) (v' : Int32) (f' : q_Mem → Option (Unit × q_Mem)), q_tI (M', X') 54 3 v' f' = f' (q_u2 M' 54 3 v', X') := fun M' v' f' => p_tI (sh_54 hB') (by decide) (by decide) M' 3 v' f' (by decide)
    simp (disch := omega) only [↓ce_39 hB', rf_39 hB', ↓ce_53 hB', rf_53 hB', ↓nn_41, ↓nn_42, ↓nn_43, ↓nn_44, ↓nn_55, p_bs, p_rq0, p_rq1, p_rz0, p_rz1, p_us, p_un, p_uj, ↓reduceIte, l0', e40', l1', l2', e402, l3', l4']
    rw [← hK1']
    simp (disch := omega) only [p_bs, p_rq0, p_rq1, p_rz0, p_rz1, p_us, p_un, p_uj, ↓reduceIte, b1']
  · rw [b4' 1 (fun ⟨g', h1', h2'⟩ => by omega), hK1', p_uj _ _ _ _ _ (by decide), p_uj _ _ _ _ _ (by decide), p_us]
  · rw [b4' 2 (fun ⟨g', h1', h2'⟩ => by omega), hK1', p_uj _ _ _ _ _ (by decide), p_us]
  · rw [b4' 3 (fun ⟨g', h1', h2'⟩ => by omega), hK1', p_us]
end PV'
