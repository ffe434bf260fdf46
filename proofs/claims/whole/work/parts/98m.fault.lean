/-! fault -/
theorem p_uu (I' : p_I) (k' j' : Nat) (v' w' : Int32) : q_u2 (q_u2 I' k' j' v') k' j' w' = q_u2 I' k' j' w' := by
  funext a' b'
  by_cases h1' : a' = k'
  · subst h1'
    by_cases h2' : b' = j'
    · subst h2'; rw [p_us, p_us]
    · rw [p_uj _ _ _ _ _ h2', p_uj _ _ _ _ _ h2', p_uj _ _ _ _ _ h2']
  · rw [p_uc _ _ _ _ _ h1', p_uc _ _ _ _ _ h1', p_uc _ _ _ _ _ h1']
section PF'
variable {A' : v_A} {X' : p_X} {I' : p_I}
theorem s_mfault0 (hB' : p_B X') {I1' J' : p_I} (d1' : F_X12_readHouse 87 (q_u2 I1' 87 0 0, X') = some ((), (J', p_T X' 89))) : F_X12_fault 87 (Int32.ofNat 0) (I1', X') = some (J' 87 11, (J', p_T X' 89)) := by
  have hin' : ∀ M' : q_Mem, F_X12_isIn (Int32.ofNat 0).toInt64 0 2 M' = some (t_b (t_inr (Int32.ofNat 0) 3)) := fun M' => s_isInT _ 2 (by decide) 0 2 rfl rfl M'
  have hr' : t_inr (Int32.ofNat 0) 3 = true := by decide
  unfold F_X12_fault J_X12_fault_28 J_X12_fault_46 J_X12_fault_55
  simp (disch := omega) only [↓ce_87 hB', rf_87 hB', ↓nn_31, ↓nn_33, ↓nn_89, ↓nn_90, ↓nn_91, ↓nn_92, ↓nn_93, ↓nn_94, ↓nn_95, ↓nn_96, ↓nn_97, ↓nn_98, ↓nn_99, ↓nn_100, ↓nn_101, ↓nn_102, ↓nn_103, ↓nn_104, ↓nn_105, ↓nn_106, ↓nn_107, ↓nn_108, p_bs, p_rq0, p_rq1, p_rz0, p_rz1, p_us, p_un, p_uj, ↓reduceIte, hin', hr', t_b0, Bool.true_eq_false, show (Int32.ofNat 0 = 0) = True from by decide, show (Int32.ofNat 0 = 1) = False from by decide, show (Int32.ofNat 0 = 2) = False from by decide, d1']
  have hB' := p_BT hB' 89
  simp (disch := omega) only [↓ce_87 hB', rf_87 hB', ↓nn_31, ↓nn_33, ↓nn_89, ↓nn_90, ↓nn_91, ↓nn_92, ↓nn_93, ↓nn_94, ↓nn_95, ↓nn_96, ↓nn_97, ↓nn_98, ↓nn_99, ↓nn_100, ↓nn_101, ↓nn_102, ↓nn_103, ↓nn_104, ↓nn_105, ↓nn_106, ↓nn_107, ↓nn_108, p_bs, p_rq0, p_rq1, p_rz0, p_rz1, p_us, p_un, p_uj, ↓reduceIte]
theorem s_mfault1 (hB' : p_B X') {I1' J' : p_I} {v' : Int32} (h6' : I1' 87 6 = v') (d1' : F_X12_goThrough 87 88 0 v' (q_u2 I1' 87 0 0, X') = some ((), (J', p_T X' 89))) : F_X12_fault 87 (Int32.ofNat 1) (I1', X') = some (J' 87 11, (J', p_T X' 89)) := by
  have hin' : ∀ M' : q_Mem, F_X12_isIn (Int32.ofNat 1).toInt64 0 2 M' = some (t_b (t_inr (Int32.ofNat 1) 3)) := fun M' => s_isInT _ 2 (by decide) 0 2 rfl rfl M'
  have hr' : t_inr (Int32.ofNat 1) 3 = true := by decide
  have h6'' : q_u2 I1' 87 0 0 87 6 = v' := by rw [p_uj _ _ _ _ _ (by decide)]; exact h6'
  unfold F_X12_fault J_X12_fault_28 J_X12_fault_46 J_X12_fault_55
  simp (disch := omega) only [↓ce_87 hB', rf_87 hB', ↓nn_31, ↓nn_33, ↓nn_89, ↓nn_90, ↓nn_91, ↓nn_92, ↓nn_93, ↓nn_94, ↓nn_95, ↓nn_96, ↓nn_97, ↓nn_98, ↓nn_99, ↓nn_100, ↓nn_101, ↓nn_102, ↓nn_103, ↓nn_104, ↓nn_105, ↓nn_106, ↓nn_107, ↓nn_108, p_bs, p_rq0, p_rq1, p_rz0, p_rz1, p_us, p_un, p_uj, ↓reduceIte, hin', hr', t_b0, Bool.true_eq_false, show (Int32.ofNat 1 = 0) = False from by decide, show (Int32.ofNat 1 = 1) = True from by decide, show (Int32.ofNat 1 = 2) = False from by decide, h6'', d1']
  have hB' := p_BT hB' 89
  simp (disch := omega) only [↓ce_87 hB', rf_87 hB', ↓nn_31, ↓nn_33, ↓nn_89, ↓nn_90, ↓nn_91, ↓nn_92, ↓nn_93, ↓nn_94, ↓nn_95, ↓nn_96, ↓nn_97, ↓nn_98, ↓nn_99, ↓nn_100, ↓nn_101, ↓nn_102, ↓nn_103, ↓nn_104, ↓nn_105, ↓nn_106, ↓nn_107, ↓nn_108, p_bs, p_rq0, p_rq1, p_rz0, p_rz1, p_us, p_un, p_uj, ↓reduceIte]
theorem s_mfault2 (hB' : p_B X') {I1' J' : p_I} (d1' : F_X12_readWeek 87 (q_u2 I1' 87 0 0, X') = some ((), (J', p_T X' 89))) : F_X12_fault 87 (Int32.ofNat 2) (I1', X') = some (J' 87 11, (J', p_T X' 89)) := by
  have hin' : ∀ M' : q_Mem, F_X12_isIn (Int32.ofNat 2).toInt64 0 2 M' = some (t_b (t_inr (Int32.ofNat 2) 3)) := fun M' => s_isInT _ 2 (by decide) 0 2 rfl rfl M'
  have hr' : t_inr (Int32.ofNat 2) 3 = true := by decide
  unfold F_X12_fault J_X12_fault_28 J_X12_fault_46 J_X12_fault_55
  simp (disch := omega) only [↓ce_87 hB', rf_87 hB', ↓nn_31, ↓nn_33, ↓nn_89, ↓nn_90, ↓nn_91, ↓nn_92, ↓nn_93, ↓nn_94, ↓nn_95, ↓nn_96, ↓nn_97, ↓nn_98, ↓nn_99, ↓nn_100, ↓nn_101, ↓nn_102, ↓nn_103, ↓nn_104, ↓nn_105, ↓nn_106, ↓nn_107, ↓nn_108, p_bs, p_rq0, p_rq1, p_rz0, p_rz1, p_us, p_un, p_uj, ↓reduceIte, hin', hr', t_b0, Bool.true_eq_false, show (Int32.ofNat 2 = 0) = False from by decide, show (Int32.ofNat 2 = 1) = False from by decide, show (Int32.ofNat 2 = 2) = True from by decide, d1']
  have hB' := p_BT hB' 89
  simp (disch := omega) only [↓ce_87 hB', rf_87 hB', ↓nn_31, ↓nn_33, ↓nn_89, ↓nn_90, ↓nn_91, ↓nn_92, ↓nn_93, ↓nn_94, ↓nn_95, ↓nn_96, ↓nn_97, ↓nn_98, ↓nn_99, ↓nn_100, ↓nn_101, ↓nn_102, ↓nn_103, ↓nn_104, ↓nn_105, ↓nn_106, ↓nn_107, ↓nn_108, p_bs, p_rq0, p_rq1, p_rz0, p_rz1, p_us, p_un, p_uj, ↓reduceIte]
theorem s_cfault (hB' : p_B X') {q' : Nat} (hq' : q' < 3) {ok' : Bool} {x' : Nat} {I1' : p_I} (c1' : F_X11_readTape 36 (Int32.ofNat q') (I', X') = some (t_b ok', (I1', X'))) (hx' : ok' = false → I1' 37 2 = Int32.ofNat x') : F_X11_fault 36 (Int32.ofNat q') (I', X') = some (if ok' = true then -1 else Int32.ofNat x', (I1', X')) := by
  have hq0' : (Int32.ofNat q' < 0) = False := by
    rw [show (0 : Int32) = Int32.ofNat 0 from rfl, p_lt q' 0 (by omega) (by omega)]
    simp
  have hq2' : (2 < Int32.ofNat q') = False := by
    rw [show (2 : Int32) = Int32.ofNat 2 from rfl, p_lt 2 q' (by omega) (by omega)]
    apply eq_false; omega
  unfold F_X11_fault
  cases ok'
  · simp (disch := omega) only [↓ce_36 hB', rf_36 hB', ↓ce_37 hB', rf_37 hB', ↓nn_38, ↓nn_39, ↓nn_40, ↓nn_45, ↓nn_50, ↓nn_52, ↓nn_53, ↓nn_54, ↓nn_56, ↓nn_58, ↓nn_64, ↓nn_67, ↓nn_68, ↓nn_84, p_bs, p_rq0, p_rq1, p_rz0, p_rz1, p_us, p_un, p_uj, ↓reduceIte, hq0', hq2', c1', t_b0, hx' rfl, Bool.false_eq_true]
  · simp (disch := omega) only [↓ce_36 hB', rf_36 hB', ↓nn_38, ↓nn_40, ↓nn_45, ↓nn_50, ↓nn_52, ↓nn_53, ↓nn_54, ↓nn_56, ↓nn_58, ↓nn_64, ↓nn_67, ↓nn_68, ↓nn_84, p_bs, p_rq0, p_rq1, p_rz0, p_rz1, p_us, p_un, p_uj, ↓reduceIte, hq0', hq2', c1', t_b0, Bool.true_eq_false]
theorem m_fault (h' : v_V A' I' X') (l' : Int32) : ∃ r' I1' J' X1', F_X11_fault 36 l' (I', X') = some (r', (I1', X')) ∧ F_X12_fault 87 l' (I1', X') = some (r', (J', X1')) ∧ v_V A' J' X1' := by
  obtain ⟨L', hLC', hLM'⟩ := v_law h'
  have hsc' := p_scN hLC'
  have hB' := h'.1
  cases hr' : t_inr l' 3
  · have hin' : ∀ M' : q_Mem, F_X12_isIn l'.toInt64 0 2 M' = some (t_b (t_inr l' 3)) := fun M' => s_isInT l' 2 (by decide) 0 2 rfl rfl M'
    have key' : ∀ o' : Option (Int32 × q_Mem), (if l' < 0 then some ((-2 : Int32), (I', X')) else if 2 < l' then some ((-2 : Int32), (I', X')) else o') = some (-2, (I', X')) := fun o' => by
      rw [t_if20 l' 2 2 (by decide) rfl, hr']; simp
    refine ⟨-2, I', _, X', ?_, ?_, v_thr h'⟩
    · unfold F_X11_fault
      exact key' _
    · unfold F_X12_fault
      simp (disch := omega) only [↓ce_87 hB', rf_87 hB', ↓nn_31, ↓nn_33, ↓nn_89, ↓nn_90, ↓nn_91, ↓nn_92, ↓nn_93, ↓nn_94, ↓nn_95, ↓nn_96, ↓nn_97, ↓nn_98, ↓nn_99, ↓nn_100, ↓nn_101, ↓nn_102, ↓nn_103, ↓nn_104, ↓nn_105, ↓nn_106, ↓nn_107, ↓nn_108, p_bs, p_rq0, p_rq1, p_rz0, p_rz1, p_us, p_un, p_uj, ↓reduceIte, hin', hr', t_b0]
  · obtain ⟨q', hq', rfl⟩ := t_inrE (by decide) hr'
    have ho' : q' = 0 ∨ q' = 1 ∨ q' = 2 := by omega
    rcases ho' with rfl | rfl | rfl
    · obtain ⟨ok', x', I1', J', c1', c2', c3', c4', c5', c6', c7', c8', c9', c10', -⟩ := v_rdH h'
      refine ⟨if ok' = true then -1 else Int32.ofNat x', I1', J', p_T X' 89, s_cfault hB' (q' := 0) (by omega) c1' c5', by rw [← c9']; exact s_mfault0 hB' c2', ?_⟩
      exact v_keep h' ⟨fun c' z1' z2' => by rw [c7' c' (by omega) (by omega) (by omega) (by omega)]; exact c3' c' (by omega) (by omega), by rw [c7' 37 (by decide) (by decide) (by decide) (by decide)]; exact c4' 1 (by decide) (by decide), fun j' z1' z2' z3' z4' z5' z6' z7' => by rw [c8' j' z4' (by omega) z5' z6' z7', c3' 87 (by decide) (by decide)], fun j' _ => by rw [c7' 98 (by decide) (by decide) (by decide) (by decide), c3' 98 (by decide) (by decide)], fun j' _ => by rw [c7' 99 (by decide) (by decide) (by decide) (by decide), c3' 99 (by decide) (by decide)], fun c' z1' z2' z3' z4' => by rw [c7' c' (by omega) (by omega) (by omega) (by omega)]; exact c3' c' (by omega) (by omega)⟩ 89
    · obtain ⟨ok', x', I1', J', c1', c2', c3', c4', c5', c6', c7', c8', c9', c10', -⟩ := v_rdL h'
      refine ⟨if ok' = true then -1 else Int32.ofNat x', I1', J', p_T X' 89, s_cfault hB' (q' := 1) (by omega) c1' c5', by rw [← c9']; exact s_mfault1 hB' (by rw [c3' 87 (by decide) (by decide) (by decide)]) c2', ?_⟩
      exact v_keep h' ⟨fun c' z1' z2' => by rw [c7' c' (by omega)]; exact c3' c' (by omega) (by omega) (by omega), by rw [c7' 37 (by decide)]; exact c4' 1 (by decide) (by decide), fun j' z1' z2' z3' z4' z5' z6' z7' => by rw [c8' j' z4' z1' z2', c3' 87 (by decide) (by decide) (by decide)], fun j' _ => by rw [c7' 98 (by decide), c3' 98 (by decide) (by decide) (by decide)], fun j' _ => by rw [c7' 99 (by decide), c3' 99 (by decide) (by decide) (by decide)], fun c' z1' z2' z3' z4' => by rw [c7' c' (by omega)]; exact c3' c' (by omega) (by omega) (by omega)⟩ 89
    · obtain ⟨ok', x', I1', J', c1', c2', c3', c4', c5', c6', c7', c8', c9', c10', c11', c12', -⟩ := v_rdW h' rfl
      have hW' := h'.2.2.2.2.2.2.2.2.2.2.1
      have hws' := hW'.2.2.2.1 _ (Nat.le_refl _)
      have hr13' := hW'.2.2.2.2.1
      obtain ⟨-, -, -, w4', w5'⟩ := hws'
      refine ⟨if ok' = true then -1 else Int32.ofNat x', I1', J', p_T X' 89, s_cfault hB' (q' := 2) (by omega) c1' c5', by rw [← c9']; exact s_mfault2 hB' c2', ?_⟩
      refine v_keep h' ⟨fun c' z1' z2' => by rw [c7' c' (by omega) (by omega) (by omega)]; exact c3' c' (by omega) (by omega) (by omega), by rw [c7' 37 (by decide) (by decide) (by decide)]; exact c4' 1 (by decide) (by decide), fun j' z1' z2' z3' z4' z5' z6' z7' => by rw [c8' j' z4' (by omega), c3' 87 (by omega) (by omega) (by omega)], c11', c12', fun c' z1' z2' z3' z4' => by rw [c7' c' (by omega) (by omega) (by omega)]; exact c3' c' (by omega) (by omega) (by omega)⟩ 89
end PF'
