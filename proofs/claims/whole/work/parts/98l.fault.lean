/-! fault: both sides read the tape -/
section PF'
variable {A' : v_A} {X' : p_X} {I' : p_I}
theorem t_Ib87 (I' : p_I) (a' b' : Int32) : (∀ c', c' ≠ 87 → t_Ib I' a' b' c' = I' c') ∧ (∀ j', ¬ (8 ≤ j' ∧ j' ≤ 11) → t_Ib I' a' b' 87 j' = I' 87 j') ∧ t_Ib I' a' b' 87 11 = -1 := by
  unfold t_Ib
  refine ⟨fun c' hc' => by simp (disch := omega) only [p_uc], fun j' hj' => by simp (disch := omega) only [p_uj], p_us _ _ _ _⟩
theorem v_rdH (h' : v_V A' I' X') : ∃ ok' x' I1' J', F_X11_readTape 36 0 (I', X') = some (t_b ok', (I1', X')) ∧ F_X12_readHouse 87 (q_u2 I1' 87 0 0, X') = some ((), (J', p_T X' 89)) ∧ (∀ c', c' ≠ 37 → ¬ (44 ≤ c' ∧ c' ≤ 47) → I1' c' = I' c') ∧ (∀ j', j' ≠ 2 → j' ≠ 3 → I1' 37 j' = I' 37 j') ∧ (ok' = false → I1' 37 2 = Int32.ofNat x') ∧ x' ≤ 240 ∧ (∀ c', c' ≠ 87 → c' ≠ 93 → c' ≠ 95 → c' ≠ 97 → J' c' = I1' c') ∧ (∀ j', j' ≠ 0 → ¬ (8 ≤ j' ∧ j' ≤ 11) → j' ≠ 28 → j' ≠ 29 → j' ≠ 31 → J' 87 j' = I1' 87 j') ∧ J' 87 11 = (if ok' = true then -1 else Int32.ofNat x') ∧ J' 87 0 = 0 ∧ (ok' = true → ∃ β n' hs' K' K'', (n' ≤ 240 ∧ (∀ i', i' < n' → β i' < 256) ∧ I' 87 6 = Int32.ofNat n' ∧ ∀ i', i' < n' → I' 88 i' = t_by (β i')) ∧ t_hou β n' 13 0 t_h0 = .inr hs' ∧ (∃ e', t_CH K' e' hs' I1') ∧ (∃ e', t_MH K'' e' hs' J')) := by
  obtain ⟨hB', hS', hT', -⟩ := id h'
  obtain ⟨β, n', t1', t2', t3', t4', t5', t6'⟩ := hT'
  have f0' : ∀ c', c' ≠ 37 → q_u2 I' 37 2 0 c' = I' c' := fun c' hc' => p_uc _ _ _ _ _ hc'
  have g0' : ∀ j', j' ≠ 2 → q_u2 I' 37 2 0 37 j' = I' 37 j' := fun j' hj' => p_uj _ _ _ _ _ hj'
  have hTP' : t_TP β n' 0 (q_u2 I' 37 2 0) := ⟨by rw [g0' 1 (by decide)]; exact t3', p_us _ _ _ _, by rw [f0' 38 (by decide)]; exact t5', t1', by omega, t2'⟩
  have hC' := s_houseFrom (X' := X') hB' (fun c' hc' => by rw [f0' c' (by omega)]; exact hS' c' hc') hTP'
  generalize hI0' : q_u2 I' 37 2 0 = I0' at *
  have key' : ∀ I1' : p_I, (∀ c', c' ≠ 37 → ¬ (44 ≤ c' ∧ c' ≤ 47) → I1' c' = I' c') → ∃ J', F_X12_readHouse 87 (q_u2 I1' 87 0 0, X') = some ((), (J', p_T X' 89)) ∧ ((∃ x', t_hou β n' 13 0 t_h0 = .inl x' ∧ t_MY (t_Ib (q_u2 I1' 87 0 0) 0 (q_u2 I1' 87 0 0 87 6)) x' J' ∧ x' ≤ n') ∨ (∃ x' h', t_hou β n' 13 0 t_h0 = .inr h' ∧ t_MH (t_Ib (q_u2 I1' 87 0 0) 0 (q_u2 I1' 87 0 0 87 6)) x' h' J')) := fun I1' f1' =>
    s_readHouse (I' := q_u2 I1' 87 0 0) hB' (fun c' hc' => by rw [p_uc _ _ _ _ _ (by omega), f1' c' (by omega) (by omega)]; exact hS' c' hc') (by rw [p_uj _ _ _ _ _ (by decide), f1' 87 (by decide) (by decide)]; exact t4') t1' (fun i' hi' => by rw [p_uc _ _ _ _ _ (by decide), f1' 88 (by decide) (by decide)]; exact t6' i' hi') t2'
  rcases hC' with ⟨x', I1', c1', c2', ⟨c3', c4', c5'⟩, c6'⟩ | ⟨hs', x', I1', c1', c2', c3'⟩
  · have f1' : ∀ c', c' ≠ 37 → ¬ (44 ≤ c' ∧ c' ≤ 47) → I1' c' = I' c' := fun c' z1' z2' => by rw [c3' c' z1' z2']; exact f0' c' z1'
    obtain ⟨J', d1', d2'⟩ := key' I1' f1'
    rcases d2' with ⟨x'', e1', ⟨e2', e3', e4'⟩, e5'⟩ | ⟨x'', hs', e1', -⟩
    · rw [c1'] at e1'
      cases e1'
      obtain ⟨b1', b2', b3'⟩ := t_Ib87 (q_u2 I1' 87 0 0) 0 (q_u2 I1' 87 0 0 87 6)
      refine ⟨false, x', I1', J', ?_, d1', f1', fun j' z1' z2' => by rw [c4' j' z1' z2']; exact g0' j' z1', fun _ => c5', by omega, fun c' z1' z2' z3' z4' => by rw [e2' c' z1' z2' z3' z4', b1' c' z1', p_uc _ _ _ _ _ z1'], fun j' z1' z2' z3' z4' z5' => by rw [e3' j' (by omega) (by omega) z3' z4' z5', b2' j' z2', p_uj _ _ _ _ _ z1'], e4', by rw [e3' 0 (by decide) (by decide) (by decide) (by decide) (by decide), b2' 0 (by omega)]; exact p_us _ _ _ _, fun h' => absurd h' (by decide)⟩
      unfold F_X11_readTape
      simp (disch := omega) only [↓ce_36 hB', rf_36 hB', ↓ce_37 hB', rf_37 hB', ↓nn_38, ↓nn_39, ↓nn_40, ↓nn_45, ↓nn_50, ↓nn_52, ↓nn_53, ↓nn_54, ↓nn_56, ↓nn_58, ↓nn_64, ↓nn_67, ↓nn_68, ↓nn_84, p_bs, p_rq0, p_rq1, p_rz0, p_rz1, p_us, p_un, p_uj, ↓reduceIte, hI0']
      simp (disch := omega) only [↓ce_36 hB', rf_36 hB', ↓ce_44 hB', rf_44 hB', ↓nn_38, ↓nn_40, ↓nn_45, ↓nn_46, ↓nn_47, ↓nn_48, ↓nn_49, ↓nn_50, ↓nn_52, ↓nn_53, ↓nn_54, ↓nn_56, ↓nn_58, ↓nn_64, ↓nn_67, ↓nn_68, ↓nn_84, p_bs, p_rq0, p_rq1, p_rz0, p_rz1, p_us, p_un, p_uj, ↓reduceIte, c2']
      rfl
    · rw [c1'] at e1'; cases e1'
  · have f1' : ∀ c', c' ≠ 37 → ¬ (44 ≤ c' ∧ c' ≤ 47) → I1' c' = I' c' := fun c' z1' z2' => by rw [c3'.1 c' z1' z2']; exact f0' c' z1'
    obtain ⟨J', d1', d2'⟩ := key' I1' f1'
    rcases d2' with ⟨x'', e1', -⟩ | ⟨x'', hs'', e1', e2'⟩
    · rw [c1'] at e1'; cases e1'
    · rw [c1'] at e1'
      cases e1'
      obtain ⟨b1', b2', b3'⟩ := t_Ib87 (q_u2 I1' 87 0 0) 0 (q_u2 I1' 87 0 0 87 6)
      refine ⟨true, 0, I1', J', ?_, d1', f1', fun j' z1' z2' => by rw [c3'.2.1 j' z1' z2']; exact g0' j' z1', fun h' => absurd h' (by decide), by omega, fun c' z1' z2' z3' z4' => by rw [e2'.1 c' z1' z2' z3' z4', b1' c' z1', p_uc _ _ _ _ _ z1'], fun j' z1' z2' z3' z4' z5' => by rw [e2'.2.1 j' (by omega) z3' z4' z5', b2' j' z2', p_uj _ _ _ _ _ z1'], by rw [e2'.2.1 11 (by decide) (by decide) (by decide) (by decide)]; exact b3', by rw [e2'.2.1 0 (by decide) (by decide) (by decide) (by decide), b2' 0 (by omega)]; exact p_us _ _ _ _, fun _ => ⟨β, n', hs', _, _, ⟨t1', t2', t4', t6'⟩, c1', ⟨_, c3'⟩, ⟨_, e2'⟩⟩⟩
      unfold F_X11_readTape
      simp (disch := omega) only [↓ce_36 hB', rf_36 hB', ↓ce_37 hB', rf_37 hB', ↓nn_38, ↓nn_39, ↓nn_40, ↓nn_45, ↓nn_50, ↓nn_52, ↓nn_53, ↓nn_54, ↓nn_56, ↓nn_58, ↓nn_64, ↓nn_67, ↓nn_68, ↓nn_84, p_bs, p_rq0, p_rq1, p_rz0, p_rz1, p_us, p_un, p_uj, ↓reduceIte, hI0']
      simp (disch := omega) only [↓ce_36 hB', rf_36 hB', ↓ce_44 hB', rf_44 hB', ↓nn_38, ↓nn_40, ↓nn_45, ↓nn_46, ↓nn_47, ↓nn_48, ↓nn_49, ↓nn_50, ↓nn_52, ↓nn_53, ↓nn_54, ↓nn_56, ↓nn_58, ↓nn_64, ↓nn_67, ↓nn_68, ↓nn_84, p_bs, p_rq0, p_rq1, p_rz0, p_rz1, p_us, p_un, p_uj, ↓reduceIte, c2']
      rfl
theorem v_rdL (h' : v_V A' I' X') : ∃ ok' x' I1' J', F_X11_readTape 36 1 (I', X') = some (t_b ok', (I1', X')) ∧ F_X12_goThrough 87 88 0 (I' 87 6) (q_u2 I1' 87 0 0, X') = some ((), (J', p_T X' 89)) ∧ (∀ c', c' ≠ 37 → c' ≠ 49 → c' ≠ 50 → I1' c' = I' c') ∧ (∀ j', j' ≠ 2 → j' ≠ 3 → I1' 37 j' = I' 37 j') ∧ (ok' = false → I1' 37 2 = Int32.ofNat x') ∧ x' ≤ 240 ∧ (∀ c', c' ≠ 87 → J' c' = I1' c') ∧ (∀ j', j' ≠ 0 → ¬ (8 ≤ j' ∧ j' ≤ 14) → j' ≠ 17 → J' 87 j' = I1' 87 j') ∧ J' 87 11 = (if ok' = true then -1 else Int32.ofNat x') ∧ J' 87 0 = 0 ∧ (ok' = true → ∃ β n' cls', n' ≤ 240 ∧ (∀ i', i' < n' → β i' < 256) ∧ I' 87 6 = Int32.ofNat n' ∧ (∀ i', i' < n' → I' 88 i' = t_by (β i')) ∧ t_law β n' 241 0 [] = .inr cls' ∧ I1' 49 2 = Int32.ofNat (t_lcode cls').length ∧ (∀ j', j' < (t_lcode cls').length → I1' 50 j' = (t_lcode cls').getD j' 0) ∧ (t_lcode cls').length ≤ 240 ∧ cls' ≠ [] ∧ ∀ cl' ∈ cls', t_GC cl') := by
  obtain ⟨hB', hS', hT', -⟩ := id h'
  obtain ⟨β, n', t1', t2', t3', t4', t5', t6'⟩ := hT'
  have f0' : ∀ c', c' ≠ 37 → q_u2 I' 37 2 0 c' = I' c' := fun c' hc' => p_uc _ _ _ _ _ hc'
  have g0' : ∀ j', j' ≠ 2 → q_u2 I' 37 2 0 37 j' = I' 37 j' := fun j' hj' => p_uj _ _ _ _ _ hj'
  have hTP' : t_TP β n' 0 (q_u2 I' 37 2 0) := ⟨by rw [g0' 1 (by decide)]; exact t3', p_us _ _ _ _, by rw [f0' 38 (by decide)]; exact t5', t1', by omega, t2'⟩
  have hC' := s_readLaw (X' := X') hB' (fun c' hc' => by rw [f0' c' (by omega)]; exact hS' c' hc') hTP'
  generalize hI0' : q_u2 I' 37 2 0 = I0' at *
  have key' := fun (I1' : p_I) (f1' : ∀ c', c' ≠ 37 → c' ≠ 49 → c' ≠ 50 → I1' c' = I' c') =>
    s_goThrough (β := β) (n' := n') (I' := q_u2 I1' 87 0 0) (X' := X') (tc' := 88) (bg' := 0) hB' (fun c' hc' => by rw [p_uc _ _ _ _ _ (by omega), f1' c' (by omega) (by omega) (by omega)]; exact hS' c' hc') (.inl ⟨rfl, rfl⟩) t1' (fun i' hi' => by rw [p_uc _ _ _ _ _ (by decide), f1' 88 (by decide) (by decide) (by decide), Nat.zero_add]; exact t6' i' hi') t2'
  rcases hC' with ⟨x', I1', c1', c2', ⟨c3', c4', c5', c7'⟩, c6'⟩ | ⟨x', cls', I1', c1', c2', c3', c4', c5', c6', c7'⟩
  · have f1' : ∀ c', c' ≠ 37 → c' ≠ 49 → c' ≠ 50 → I1' c' = I' c' := fun c' z1' z2' z3' => by rw [c3' c' z1' z2' z3']; exact f0' c' z1'
    obtain ⟨J', d1', d2', d3', d4'⟩ := key' I1' f1'
    rcases d4' with ⟨x'', e1', e2', e3'⟩ | ⟨cls', e1', -⟩
    · rw [c1'] at e1'
      cases e1'
      refine ⟨false, x', I1', J', ?_, by rw [t4']; exact d1', f1', fun j' z1' z2' => by rw [c4' j' z1' z2']; exact g0' j' z1', fun _ => c5', by omega, fun c' z1' => by rw [d2' c' z1', p_uc _ _ _ _ _ z1'], fun j' z1' z2' z3' => by rw [d3' j' z2' z3', p_uj _ _ _ _ _ z1'], e2', by rw [d3' 0 (by omega) (by decide)]; exact p_us _ _ _ _, fun h' => absurd h' (by decide)⟩
      unfold F_X11_readTape
      simp (disch := omega) only [↓ce_36 hB', rf_36 hB', ↓ce_37 hB', rf_37 hB', ↓nn_38, ↓nn_39, ↓nn_40, ↓nn_45, ↓nn_50, ↓nn_52, ↓nn_53, ↓nn_54, ↓nn_56, ↓nn_58, ↓nn_64, ↓nn_67, ↓nn_68, ↓nn_84, p_bs, p_rq0, p_rq1, p_rz0, p_rz1, p_us, p_un, p_uj, ↓reduceIte, hI0', show ((1 : Int32) = 0) = False from by decide]
      simp (disch := omega) only [↓ce_36 hB', rf_36 hB', ↓ce_49 hB', rf_49 hB', ↓nn_38, ↓nn_40, ↓nn_45, ↓nn_50, ↓nn_51, ↓nn_52, ↓nn_53, ↓nn_54, ↓nn_56, ↓nn_58, ↓nn_64, ↓nn_67, ↓nn_68, ↓nn_84, p_bs, p_rq0, p_rq1, p_rz0, p_rz1, p_us, p_un, p_uj, ↓reduceIte, c2']
      rfl
    · rw [c1'] at e1'; cases e1'
  · have f1' : ∀ c', c' ≠ 37 → c' ≠ 49 → c' ≠ 50 → I1' c' = I' c' := fun c' z1' z2' z3' => by rw [c3'.1 c' z1' z2' z3']; exact f0' c' z1'
    obtain ⟨J', d1', d2', d3', d4'⟩ := key' I1' f1'
    rcases d4' with ⟨x'', e1', -⟩ | ⟨cls'', e1', e2', -⟩
    · rw [c1'] at e1'; cases e1'
    · rw [c1'] at e1'
      cases e1'
      refine ⟨true, 0, I1', J', ?_, by rw [t4']; exact d1', f1', fun j' z1' z2' => by rw [c3'.2.1 j' z1' z2']; exact g0' j' z1', fun h' => absurd h' (by decide), by omega, fun c' z1' => by rw [d2' c' z1', p_uc _ _ _ _ _ z1'], fun j' z1' z2' z3' => by rw [d3' j' z2' z3', p_uj _ _ _ _ _ z1'], e2', by rw [d3' 0 (by omega) (by decide)]; exact p_us _ _ _ _, fun _ => ⟨β, n', cls', t1', t2', t4', t6', c1', c3'.2.2.2.2.1, c3'.2.2.2.2.2, by omega, c6', c7'⟩⟩
      unfold F_X11_readTape
      simp (disch := omega) only [↓ce_36 hB', rf_36 hB', ↓ce_37 hB', rf_37 hB', ↓nn_38, ↓nn_39, ↓nn_40, ↓nn_45, ↓nn_50, ↓nn_52, ↓nn_53, ↓nn_54, ↓nn_56, ↓nn_58, ↓nn_64, ↓nn_67, ↓nn_68, ↓nn_84, p_bs, p_rq0, p_rq1, p_rz0, p_rz1, p_us, p_un, p_uj, ↓reduceIte, hI0', show ((1 : Int32) = 0) = False from by decide]
      simp (disch := omega) only [↓ce_36 hB', rf_36 hB', ↓ce_49 hB', rf_49 hB', ↓nn_38, ↓nn_40, ↓nn_45, ↓nn_50, ↓nn_51, ↓nn_52, ↓nn_53, ↓nn_54, ↓nn_56, ↓nn_58, ↓nn_64, ↓nn_67, ↓nn_68, ↓nn_84, p_bs, p_rq0, p_rq1, p_rz0, p_rz1, p_us, p_un, p_uj, ↓reduceIte, c2']
      rfl
theorem v_rdW (h' : v_V A' I' X') {wd' : Nat} (hwd' : wd' = A'.2.2.2.2.2.2 A'.2.2.2.2.2.1) : ∃ ok' x' I1' J', F_X11_readTape 36 2 (I', X') = some (t_b ok', (I1', X')) ∧ F_X12_readWeek 87 (q_u2 I1' 87 0 0, X') = some ((), (J', p_T X' 89)) ∧ (∀ c', c' ≠ 37 → c' ≠ wd' → c' ≠ wd' + 1 → I1' c' = I' c') ∧ (∀ j', j' ≠ 2 → j' ≠ 3 → I1' 37 j' = I' 37 j') ∧ (ok' = false → I1' 37 2 = Int32.ofNat x') ∧ x' ≤ 240 ∧ (∀ c', c' ≠ 87 → c' ≠ 98 → c' ≠ 99 → J' c' = I1' c') ∧ (∀ j', j' ≠ 0 → ¬ (8 ≤ j' ∧ j' ≤ 11) → J' 87 j' = I1' 87 j') ∧ J' 87 11 = (if ok' = true then -1 else Int32.ofNat x') ∧ J' 87 0 = 0 ∧ (∀ j', j' < 192 → J' 98 j' = I' 98 j') ∧ (∀ j', j' ≠ 4 → J' 99 j' = I' 99 j') ∧ (ok' = true → ∃ β n' i' rows, (n' ≤ 240 ∧ (∀ i', i' < n' → β i' < 256) ∧ I' 87 6 = Int32.ofNat n' ∧ ∀ i', i' < n' → I' 88 i' = t_by (β i')) ∧ t_wk β n' 16 0 0 (fun _ => 0) = .inr (i', rows) ∧ i' ≤ 16 ∧ I1' wd' 1 = Int32.ofNat i' ∧ (∀ j', j' < 3 * i' → I1' (wd' + 1) j' = rows j') ∧ J' 99 4 = Int32.ofNat i' ∧ (∀ j', j' < 3 * i' → J' 98 (192 + j') = rows j')) := by
  obtain ⟨hB', hS', hT', hH', hN', hP', hG', hC', hL', hLH', hW', hD', hF'⟩ := id h'
  obtain ⟨β, n', t1', t2', t3', t4', t5', t6'⟩ := hT'
  have hws' : t_WS wd' X' := by rw [hwd']; exact hW'.2.2.2.1 _ (Nat.le_refl _)
  have hr13' : X'.2.1 36 13 = wd' + 1 := by rw [hwd']; exact hW'.2.2.2.2.1
  obtain ⟨w1', w2', w3', w4', w5'⟩ := id hws'
  have f0' : ∀ c', c' ≠ 37 → q_u2 I' 37 2 0 c' = I' c' := fun c' hc' => p_uc _ _ _ _ _ hc'
  have g0' : ∀ j', j' ≠ 2 → q_u2 I' 37 2 0 37 j' = I' 37 j' := fun j' hj' => p_uj _ _ _ _ _ hj'
  have hTP' : t_TP β n' 0 (q_u2 I' 37 2 0) := ⟨by rw [g0' 1 (by decide)]; exact t3', p_us _ _ _ _, by rw [f0' 38 (by decide)]; exact t5', t1', by omega, t2'⟩
  have hC' := s_weekFrom (X' := X') hB' (fun c' hc' => by rw [f0' c' (by omega)]; exact hS' c' hc') hTP' hws'
  generalize hI0' : q_u2 I' 37 2 0 = I0' at *
  have key' := fun (I1' : p_I) (f1' : ∀ c', c' ≠ 37 → c' ≠ wd' → c' ≠ wd' + 1 → I1' c' = I' c') =>
    s_readWeek (β := β) (n' := n') (I' := q_u2 I1' 87 0 0) (X' := X') hB' (fun c' hc' => by rw [p_uc _ _ _ _ _ (by omega), f1' c' (by omega) (by omega) (by omega)]; exact hS' c' hc') (by rw [p_uj _ _ _ _ _ (by decide), f1' 87 (by omega) (by omega) (by omega)]; exact t4') t1' (fun i' hi' => by rw [p_uc _ _ _ _ _ (by decide), f1' 88 (by omega) (by omega) (by omega)]; exact t6' i' hi') t2'
  rcases hC' with ⟨x', I1', c1', c2', ⟨c3', c4', c5'⟩, c6'⟩ | ⟨x', i', rows, I1', c1', c2', ⟨c3', c4', c5', c6', c7'⟩, c8'⟩
  · have f1' : ∀ c', c' ≠ 37 → c' ≠ wd' → c' ≠ wd' + 1 → I1' c' = I' c' := fun c' z1' z2' z3' => by rw [c3' c' z1' z2' z3']; exact f0' c' z1'
    obtain ⟨J', d1', d2'⟩ := key' I1' f1'
    rcases d2' with ⟨x'', e1', ⟨e2', e3', e4', e6', e7'⟩, e5'⟩ | ⟨i', rows, e1', -⟩
    · rw [c1'] at e1'
      cases e1'
      obtain ⟨b1', b2', b3'⟩ := t_Ib87 (q_u2 I1' 87 0 0) 0 (q_u2 I1' 87 0 0 87 6)
      refine ⟨false, x', I1', J', ?_, d1', f1', fun j' z1' z2' => by rw [c4' j' z1' z2']; exact g0' j' z1', fun _ => c5', by omega, fun c' z1' z2' z3' => by rw [e2' c' z1' z2' z3', b1' c' z1', p_uc _ _ _ _ _ z1'], fun j' z1' z2' => by rw [e3' j' (by omega) (by omega), b2' j' z2', p_uj _ _ _ _ _ z1'], e4', by rw [e3' 0 (by decide) (by decide), b2' 0 (by omega)]; exact p_us _ _ _ _, fun j' hj' => by rw [e6' j' hj', b1' 98 (by decide), p_uc _ _ _ _ _ (by decide), f1' 98 (by omega) (by omega) (by omega)], fun j' hj' => by rw [e7' j' hj', b1' 99 (by decide), p_uc _ _ _ _ _ (by decide), f1' 99 (by omega) (by omega) (by omega)], fun h' => absurd h' (by decide)⟩
      unfold F_X11_readTape
      simp (disch := omega) only [↓ce_36 hB', rf_36 hB', ↓ce_37 hB', rf_37 hB', ↓nn_38, ↓nn_39, ↓nn_40, ↓nn_45, ↓nn_50, ↓nn_52, ↓nn_53, ↓nn_54, ↓nn_56, ↓nn_58, ↓nn_64, ↓nn_67, ↓nn_68, ↓nn_84, p_bs, p_rq0, p_rq1, p_rz0, p_rz1, p_us, p_un, p_uj, ↓reduceIte, hI0', hr13', p_nns, show ((2 : Int32) = 0) = False from by decide, show ((2 : Int32) = 1) = False from by decide]
      simp only [p_ob w1', c2', p_bs, p_rz0]
      rfl
    · rw [c1'] at e1'; cases e1'
  · have f1' : ∀ c', c' ≠ 37 → c' ≠ wd' → c' ≠ wd' + 1 → I1' c' = I' c' := fun c' z1' z2' z3' => by rw [c3' c' z1' z2' z3']; exact f0' c' z1'
    obtain ⟨J', d1', d2'⟩ := key' I1' f1'
    rcases d2' with ⟨x'', e1', -⟩ | ⟨i'', rows', e1', e2', e3', e4', e5', e6', e7', e8'⟩
    · rw [c1'] at e1'; cases e1'
    · rw [c1'] at e1'
      cases e1'
      obtain ⟨b1', b2', b3'⟩ := t_Ib87 (q_u2 I1' 87 0 0) 0 (q_u2 I1' 87 0 0 87 6)
      refine ⟨true, 0, I1', J', ?_, d1', f1', fun j' z1' z2' => by rw [c4' j' z1' z2']; exact g0' j' z1', fun h' => absurd h' (by decide), by omega, fun c' z1' z2' z3' => by rw [e2' c' z1' z2' z3', b1' c' z1', p_uc _ _ _ _ _ z1'], fun j' z1' z2' => by rw [e3' j' (by omega), b2' j' z2', p_uj _ _ _ _ _ z1'], by rw [e3' 11 (by decide)]; exact b3', by rw [e3' 0 (by decide), b2' 0 (by omega)]; exact p_us _ _ _ _, fun j' hj' => by rw [e4' j' hj', p_uc _ _ _ _ _ (by decide), f1' 98 (by omega) (by omega) (by omega)], fun j' hj' => by rw [e5' j' hj', p_uc _ _ _ _ _ (by decide), f1' 99 (by omega) (by omega) (by omega)], fun _ => ⟨β, n', i', rows, ⟨t1', t2', t4', t6'⟩, c1', c8', c6', c7', e6', e7'⟩⟩
      unfold F_X11_readTape
      simp (disch := omega) only [↓ce_36 hB', rf_36 hB', ↓ce_37 hB', rf_37 hB', ↓nn_38, ↓nn_39, ↓nn_40, ↓nn_45, ↓nn_50, ↓nn_52, ↓nn_53, ↓nn_54, ↓nn_56, ↓nn_58, ↓nn_64, ↓nn_67, ↓nn_68, ↓nn_84, p_bs, p_rq0, p_rq1, p_rz0, p_rz1, p_us, p_un, p_uj, ↓reduceIte, hI0', hr13', p_nns, show ((2 : Int32) = 0) = False from by decide, show ((2 : Int32) = 1) = False from by decide]
      simp only [p_ob w1', c2', p_bs, p_rz1]
      rfl
end PF'
