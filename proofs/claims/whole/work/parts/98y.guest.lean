/-! guest -/
section PG'
variable {A' : v_A} {X' : p_X} {I' : p_I}
theorem m_guestN (h' : v_V A' I' X') (a' b' : Int32) (hn' : t_inr a' (t_ng A'.1) = false ∨ t_inr b' 6 = false) : F_X12_guest 87 a' b' (I', X') = some (0, (q_u2 I' 87 0 1, X')) ∧ v_V A' (q_u2 I' 87 0 1) X' := by
  have hB' := h'.1
  have hM' := h'.2.2.2.1.2.2.1
  have hg' := s_isGuest (X' := X') hB' hM' a'
  have hin' : ∀ M' : q_Mem, F_X12_isIn b'.toInt64 0 5 M' = some (t_b (t_inr b' 6)) := fun M' => s_isInT b' 5 (by decide) 0 5 rfl rfl M'
  refine ⟨?_, v_keep0 h' (t_SCj (t_SCr X' I') 0 1 (by omega))⟩
  unfold F_X12_guest J_X12_guest_25 J_X12_guest_26
  cases hga' : t_inr a' (t_ng A'.1)
  · simp (disch := omega) only [↓ce_87 hB', rf_87 hB', ↓nn_31, ↓nn_33, ↓nn_89, ↓nn_90, ↓nn_91, ↓nn_92, ↓nn_93, ↓nn_94, ↓nn_95, ↓nn_96, ↓nn_97, ↓nn_98, ↓nn_99, ↓nn_100, ↓nn_101, ↓nn_102, ↓nn_103, ↓nn_104, ↓nn_105, ↓nn_106, ↓nn_107, ↓nn_108, p_bs, p_rq0, p_rq1, p_rz0, p_rz1, p_us, p_un, p_uj, ↓reduceIte, hg', hga', t_b0, show ((0 : Int32) < 1) = True from by decide]
  · have hb' : t_inr b' 6 = false := hn'.elim (fun e' => by rw [hga'] at e'; cases e') id
    simp (disch := omega) only [↓ce_87 hB', rf_87 hB', ↓nn_31, ↓nn_33, ↓nn_89, ↓nn_90, ↓nn_91, ↓nn_92, ↓nn_93, ↓nn_94, ↓nn_95, ↓nn_96, ↓nn_97, ↓nn_98, ↓nn_99, ↓nn_100, ↓nn_101, ↓nn_102, ↓nn_103, ↓nn_104, ↓nn_105, ↓nn_106, ↓nn_107, ↓nn_108, p_bs, p_rq0, p_rq1, p_rz0, p_rz1, p_us, p_un, p_uj, ↓reduceIte, hg', hga', t_b0, Bool.true_eq_false, hin', hb', show ((0 : Int32) < 1) = True from by decide]
def yg_r (A' : v_A) (I' : p_I) (g' w' : Nat) : Int32 := if w' = 0 then t_hg A'.1 (g' * 4) else if w' = 1 then I' 54 (13 + g') else if w' = 2 then I' 54 (19 + g') else if w' = 3 then t_hg A'.1 (g' * 4 + 3) else if w' = 4 then I' 54 (25 + g') else t_b (t_bit (I' 54 4) g')
theorem m_guest (h' : v_V A' I' X') (a' b' : Int32) (ha' : t_inr a' (t_ng A'.1) = true) (hb' : t_inr b' 6 = true) : ∃ r', r' = yg_r A' I' a'.toNatClampNeg b'.toNatClampNeg ∧ F_X11_guest 36 a' b' (I', X') = some (r', (I', X')) ∧ F_X12_guest 87 a' b' (I', X') = some (r', (q_u2 I' 87 0 0, X')) ∧ v_V A' (q_u2 I' 87 0 0) X' := by
  obtain ⟨hB', hS', hT', hH', hN', hP', hG', hC', hL', hLH', hW', hD', hF'⟩ := id h'
  obtain ⟨h1', h2', h3', h4', h5'⟩ := hH'
  have hc' := s_hasGuest (X' := X') hB' h2' a'
  have hg' := s_isGuest (X' := X') hB' h3' a'
  have hin' : ∀ M' : q_Mem, F_X12_isIn b'.toInt64 0 5 M' = some (t_b (t_inr b' 6)) := fun M' => s_isInT b' 5 (by decide) 0 5 rfl rfl M'
  have hng' := h2'.2.2.2.2.2.2.2
  have hk' := v_thr h'
  have hM'' := hk'.2.2.2.1.2.2.1
  obtain ⟨g', hg'', rfl⟩ := t_inrE (by omega) ha'
  obtain ⟨w', hw', rfl⟩ := t_inrE (by decide) hb'
  have hz' : A'.2.1 = true := by
    cases e' : A'.2.1
    · have := (h5' e').2
      omega
    · rfl
  have hHW' := h4' hz'
  obtain ⟨-, ⟨hRG', -, -⟩, -, -, -, -⟩ := hN'.1 hz'
  obtain ⟨s1', s2', s3', s4'⟩ := hRG'.1 g' (by omega)
  have x1' : (13 : Int32) + Int32.ofNat g' = Int32.ofNat (13 + g') := (Int32.ofNat_add 13 g').symm
  have x2' : (19 : Int32) + Int32.ofNat g' = Int32.ofNat (19 + g') := (Int32.ofNat_add 19 g').symm
  have x3' : (25 : Int32) + Int32.ofNat g' = Int32.ofNat (25 + g') := (Int32.ofNat_add 25 g').symm
  have y0' : (4 : Int32) * Int32.ofNat g' = Int32.ofNat (4 * g') := (Int32.ofNat_mul 4 g').symm
  have y1' : Int32.ofNat (4 * g') + 0 = Int32.ofNat (4 * g') := (Int32.ofNat_add (4 * g') 0).symm
  have y2' : Int32.ofNat (4 * g') + 1 = Int32.ofNat (4 * g' + 1) := (Int32.ofNat_add (4 * g') 1).symm
  have y3' : Int32.ofNat (4 * g') + 2 = Int32.ofNat (4 * g' + 2) := (Int32.ofNat_add (4 * g') 2).symm
  have y4' : Int32.ofNat (4 * g') + 3 = Int32.ofNat (4 * g' + 3) := (Int32.ofNat_add (4 * g') 3).symm
  have o0' : F_X3_ofGuest 39 (Int32.ofNat g') 0 (I', X') = some (t_hg A'.1 (g' * 4)) := s_ofGuest hB' h2' g' 0 (by omega) (by decide)
  have o3' : F_X3_ofGuest 39 (Int32.ofNat g') 3 (I', X') = some (t_hg A'.1 (g' * 4 + 3)) := s_ofGuest hB' h2' g' 3 (by omega) (by decide)
  have hl' : F_X8_hasLeft 53 (Int32.ofNat g') (I', X') = some (t_b (t_bit (I' 54 4) g')) := s_hasLeft (k' := 53) hB' (by decide) g'
  have e0' := s_comes (X' := X') (I' := q_u2 I' 87 0 0) hB' hM'' hHW' g' hg''
  have e3' := s_pays (X' := X') (I' := q_u2 I' 87 0 0) hB' hM'' hHW' g' hg''
  have l0' : ((0 : Int32) < 0) = False := by decide
  unfold F_X11_guest F_X12_guest J_X12_guest_26
  have hw'' : w' = 0 ∨ w' = 1 ∨ w' = 2 ∨ w' = 3 ∨ w' = 4 ∨ w' = 5 := by omega
  rcases hw'' with rfl | rfl | rfl | rfl | rfl | rfl
  · refine ⟨t_hg A'.1 (g' * 4), by rw [p_nat g' (by omega), p_nat 0 (by decide)]; rfl, ?_, ?_, hk'⟩
    · simp (disch := omega) only [↓ce_36 hB', rf_36 hB', ↓ce_39 hB', rf_39 hB', ↓nn_38, ↓nn_40, ↓nn_41, ↓nn_42, ↓nn_43, ↓nn_44, ↓nn_45, ↓nn_50, ↓nn_52, ↓nn_53, ↓nn_54, ↓nn_56, ↓nn_58, ↓nn_64, ↓nn_67, ↓nn_68, ↓nn_84, p_bs, p_rq0, p_rq1, p_rz0, p_rz1, p_us, p_un, p_uj, ↓reduceIte, hc', ha', t_b0, Bool.true_eq_false, show (Int32.ofNat 0 = 0) = True from by decide, o0']
    · simp (disch := omega) only [↓ce_87 hB', rf_87 hB', ↓nn_31, ↓nn_33, ↓nn_89, ↓nn_90, ↓nn_91, ↓nn_92, ↓nn_93, ↓nn_94, ↓nn_95, ↓nn_96, ↓nn_97, ↓nn_98, ↓nn_99, ↓nn_100, ↓nn_101, ↓nn_102, ↓nn_103, ↓nn_104, ↓nn_105, ↓nn_106, ↓nn_107, ↓nn_108, p_bs, p_rq0, p_rq1, p_rz0, p_rz1, p_us, p_un, p_uj, ↓reduceIte, hg', ha', t_b0, Bool.true_eq_false, hin', hb', l0', show (Int32.ofNat 0 = 0) = True from by decide, e0']
  · refine ⟨I' 54 (13 + g'), by rw [p_nat g' (by omega), p_nat 1 (by decide)]; rfl, ?_, ?_, hk'⟩
    · simp (disch := omega) only [↓ce_36 hB', rf_36 hB', ↓ce_39 hB', rf_39 hB', ↓ce_53 hB', rf_53 hB', ↓ce_54 hB', ↓nn_38, ↓nn_40, ↓nn_41, ↓nn_42, ↓nn_43, ↓nn_44, ↓nn_45, ↓nn_50, ↓nn_52, ↓nn_53, ↓nn_54, ↓nn_55, ↓nn_56, ↓nn_58, ↓nn_64, ↓nn_67, ↓nn_68, ↓nn_84, p_bs, p_rq0, p_rq1, p_rz0, p_rz1, p_us, p_un, p_uj, ↓reduceIte, hc', ha', t_b0, Bool.true_eq_false, show (Int32.ofNat 1 = 0) = False from by decide, show (Int32.ofNat 1 = 1) = True from by decide, x1']
    · simp (disch := omega) only [↓ce_87 hB', rf_87 hB', ↓ce_100 hB', ↓nn_31, ↓nn_33, ↓nn_89, ↓nn_90, ↓nn_91, ↓nn_92, ↓nn_93, ↓nn_94, ↓nn_95, ↓nn_96, ↓nn_97, ↓nn_98, ↓nn_99, ↓nn_100, ↓nn_101, ↓nn_102, ↓nn_103, ↓nn_104, ↓nn_105, ↓nn_106, ↓nn_107, ↓nn_108, p_bs, p_rq0, p_rq1, p_rz0, p_rz1, p_us, p_un, p_uj, ↓reduceIte, hg', ha', t_b0, Bool.true_eq_false, hin', hb', l0', show (Int32.ofNat 1 = 0) = False from by decide, show (Int32.ofNat 1 = 1) = True from by decide, y0', y1', s1']
  · refine ⟨I' 54 (19 + g'), by rw [p_nat g' (by omega), p_nat 2 (by decide)]; rfl, ?_, ?_, hk'⟩
    · simp (disch := omega) only [↓ce_36 hB', rf_36 hB', ↓ce_39 hB', rf_39 hB', ↓ce_53 hB', rf_53 hB', ↓ce_54 hB', ↓nn_38, ↓nn_40, ↓nn_41, ↓nn_42, ↓nn_43, ↓nn_44, ↓nn_45, ↓nn_50, ↓nn_52, ↓nn_53, ↓nn_54, ↓nn_55, ↓nn_56, ↓nn_58, ↓nn_64, ↓nn_67, ↓nn_68, ↓nn_84, p_bs, p_rq0, p_rq1, p_rz0, p_rz1, p_us, p_un, p_uj, ↓reduceIte, hc', ha', t_b0, Bool.true_eq_false, show (Int32.ofNat 2 = 0) = False from by decide, show (Int32.ofNat 2 = 1) = False from by decide, show (Int32.ofNat 2 = 2) = True from by decide, x2']
    · simp (disch := omega) only [↓ce_87 hB', rf_87 hB', ↓ce_100 hB', ↓nn_31, ↓nn_33, ↓nn_89, ↓nn_90, ↓nn_91, ↓nn_92, ↓nn_93, ↓nn_94, ↓nn_95, ↓nn_96, ↓nn_97, ↓nn_98, ↓nn_99, ↓nn_100, ↓nn_101, ↓nn_102, ↓nn_103, ↓nn_104, ↓nn_105, ↓nn_106, ↓nn_107, ↓nn_108, p_bs, p_rq0, p_rq1, p_rz0, p_rz1, p_us, p_un, p_uj, ↓reduceIte, hg', ha', t_b0, Bool.true_eq_false, hin', hb', l0', show (Int32.ofNat 2 = 0) = False from by decide, show (Int32.ofNat 2 = 1) = False from by decide, show (Int32.ofNat 2 = 2) = True from by decide, y0', y2', s2']
  · refine ⟨t_hg A'.1 (g' * 4 + 3), by rw [p_nat g' (by omega), p_nat 3 (by decide)]; rfl, ?_, ?_, hk'⟩
    · simp (disch := omega) only [↓ce_36 hB', rf_36 hB', ↓ce_39 hB', rf_39 hB', ↓nn_38, ↓nn_40, ↓nn_41, ↓nn_42, ↓nn_43, ↓nn_44, ↓nn_45, ↓nn_50, ↓nn_52, ↓nn_53, ↓nn_54, ↓nn_56, ↓nn_58, ↓nn_64, ↓nn_67, ↓nn_68, ↓nn_84, p_bs, p_rq0, p_rq1, p_rz0, p_rz1, p_us, p_un, p_uj, ↓reduceIte, hc', ha', t_b0, Bool.true_eq_false, show (Int32.ofNat 3 = 0) = False from by decide, show (Int32.ofNat 3 = 1) = False from by decide, show (Int32.ofNat 3 = 2) = False from by decide, show (Int32.ofNat 3 = 3) = True from by decide, o3']
    · simp (disch := omega) only [↓ce_87 hB', rf_87 hB', ↓nn_31, ↓nn_33, ↓nn_89, ↓nn_90, ↓nn_91, ↓nn_92, ↓nn_93, ↓nn_94, ↓nn_95, ↓nn_96, ↓nn_97, ↓nn_98, ↓nn_99, ↓nn_100, ↓nn_101, ↓nn_102, ↓nn_103, ↓nn_104, ↓nn_105, ↓nn_106, ↓nn_107, ↓nn_108, p_bs, p_rq0, p_rq1, p_rz0, p_rz1, p_us, p_un, p_uj, ↓reduceIte, hg', ha', t_b0, Bool.true_eq_false, hin', hb', l0', show (Int32.ofNat 3 = 0) = False from by decide, show (Int32.ofNat 3 = 1) = False from by decide, show (Int32.ofNat 3 = 2) = False from by decide, show (Int32.ofNat 3 = 3) = True from by decide, e3']
  · refine ⟨I' 54 (25 + g'), by rw [p_nat g' (by omega), p_nat 4 (by decide)]; rfl, ?_, ?_, hk'⟩
    · simp (disch := omega) only [↓ce_36 hB', rf_36 hB', ↓ce_39 hB', rf_39 hB', ↓ce_53 hB', rf_53 hB', ↓ce_54 hB', ↓nn_38, ↓nn_40, ↓nn_41, ↓nn_42, ↓nn_43, ↓nn_44, ↓nn_45, ↓nn_50, ↓nn_52, ↓nn_53, ↓nn_54, ↓nn_55, ↓nn_56, ↓nn_58, ↓nn_64, ↓nn_67, ↓nn_68, ↓nn_84, p_bs, p_rq0, p_rq1, p_rz0, p_rz1, p_us, p_un, p_uj, ↓reduceIte, hc', ha', t_b0, Bool.true_eq_false, show (Int32.ofNat 4 = 0) = False from by decide, show (Int32.ofNat 4 = 1) = False from by decide, show (Int32.ofNat 4 = 2) = False from by decide, show (Int32.ofNat 4 = 3) = False from by decide, show (Int32.ofNat 4 = 4) = True from by decide, x3']
    · simp (disch := omega) only [↓ce_87 hB', rf_87 hB', ↓ce_100 hB', ↓nn_31, ↓nn_33, ↓nn_89, ↓nn_90, ↓nn_91, ↓nn_92, ↓nn_93, ↓nn_94, ↓nn_95, ↓nn_96, ↓nn_97, ↓nn_98, ↓nn_99, ↓nn_100, ↓nn_101, ↓nn_102, ↓nn_103, ↓nn_104, ↓nn_105, ↓nn_106, ↓nn_107, ↓nn_108, p_bs, p_rq0, p_rq1, p_rz0, p_rz1, p_us, p_un, p_uj, ↓reduceIte, hg', ha', t_b0, Bool.true_eq_false, hin', hb', l0', show (Int32.ofNat 4 = 0) = False from by decide, show (Int32.ofNat 4 = 1) = False from by decide, show (Int32.ofNat 4 = 2) = False from by decide, show (Int32.ofNat 4 = 3) = False from by decide, show (Int32.ofNat 4 = 4) = True from by decide, y0', y3', s3']
  · refine ⟨t_b (t_bit (I' 54 4) g'), by rw [p_nat g' (by omega), p_nat 5 (by decide)]; rfl, ?_, ?_, hk'⟩
    · have hx' : ∀ p' : Bool, (if t_b p' = 0 then some ((0 : Int32), ((I', X') : q_Mem)) else some (1, (I', X'))) = some (t_b p', (I', X')) := fun p' => by cases p' <;> rfl
      simp (disch := omega) only [↓ce_36 hB', rf_36 hB', ↓ce_39 hB', rf_39 hB', ↓ce_53 hB', rf_53 hB', ↓ce_54 hB', ↓nn_38, ↓nn_40, ↓nn_41, ↓nn_42, ↓nn_43, ↓nn_44, ↓nn_45, ↓nn_50, ↓nn_52, ↓nn_53, ↓nn_54, ↓nn_55, ↓nn_56, ↓nn_58, ↓nn_64, ↓nn_67, ↓nn_68, ↓nn_84, p_bs, p_rq0, p_rq1, p_rz0, p_rz1, p_us, p_un, p_uj, ↓reduceIte, hc', ha', t_b0, Bool.true_eq_false, show (Int32.ofNat 5 = 0) = False from by decide, show (Int32.ofNat 5 = 1) = False from by decide, show (Int32.ofNat 5 = 2) = False from by decide, show (Int32.ofNat 5 = 3) = False from by decide, show (Int32.ofNat 5 = 4) = False from by decide, show (Int32.ofNat 5 = 5) = True from by decide, hl']
      cases t_bit (I' 54 4) g' <;> rfl
    · simp (disch := omega) only [↓ce_87 hB', rf_87 hB', ↓ce_100 hB', ↓nn_31, ↓nn_33, ↓nn_89, ↓nn_90, ↓nn_91, ↓nn_92, ↓nn_93, ↓nn_94, ↓nn_95, ↓nn_96, ↓nn_97, ↓nn_98, ↓nn_99, ↓nn_100, ↓nn_101, ↓nn_102, ↓nn_103, ↓nn_104, ↓nn_105, ↓nn_106, ↓nn_107, ↓nn_108, p_bs, p_rq0, p_rq1, p_rz0, p_rz1, p_us, p_un, p_uj, ↓reduceIte, hg', ha', t_b0, Bool.true_eq_false, hin', hb', l0', show (Int32.ofNat 5 = 0) = False from by decide, show (Int32.ofNat 5 = 1) = False from by decide, show (Int32.ofNat 5 = 2) = False from by decide, show (Int32.ofNat 5 = 3) = False from by decide, show (Int32.ofNat 5 = 4) = False from by decide, y0', y4', s4']
/-- a cell of which nothing is known may come -/
theorem yq_vpush (h' : v_V A' I' X') (s' : q_Sh) : ∃ I'' X'', q_push (I', X') s' = (I'', X'') ∧ v_V A' I'' X'' := by
  have hsc' := v_scN h'
  obtain ⟨hB', hS', hT', hH', hN', hP', hG', hC', hL', hLH', hW', hD', hF'⟩ := id h'
  have hN9' := p_len hB'
  obtain ⟨I'', X'', e0', e1', e2', e3', e4'⟩ := yq_push X' I' s'
  have f' : ∀ c', c' < 109 → I'' c' = I' c' := fun c' hc' => e1' c' (by omega)
  obtain ⟨H', hz', D', lc', lwf', wc', wkf'⟩ := A'
  simp only at *
  refine ⟨I'', X'', e0', ?_⟩
  unfold v_V
  simp only
  refine ⟨p_BE hB' e4' (fun _ _ h' => h'), fun c' hc' => by rw [f' c' (by omega)]; exact hS' c' hc', ?_, v_Hk hH' (by rw [f' 36 (by decide)]) (fun c' z1' z2' => f' c' (by omega)) (f' _ (by decide)) (f' _ (by decide)) (f' _ (by decide)) (by rw [f' 87 (by decide)]) (by rw [f' 87 (by decide)]), v_Nk hN' (f' _ (by decide)) (f' _ (by decide)) (f' _ (by decide)), v_Pk hP' (by rw [f' 57 (by decide)]) (by rw [f' 57 (by decide)]) (f' _ (by decide)) (f' _ (by decide)) (f' _ (by decide)) (by rw [f' 87 (by decide)]), v_Gk hG' (by rw [f' 57 (by decide)]) (f' _ (by decide)) (f' _ (by decide)) (f' _ (by decide)) (by rw [f' 87 (by decide)]), v_Ck hC' (by rw [f' 83 (by decide)]) (f' _ (by decide)) (f' _ (by decide)) (by rw [f' 87 (by decide)]), ?_, ?_, ?_, hD', v_Fk hF' (by rw [f' 36 (by decide)]) (by rw [f' 87 (by decide)])⟩
  · unfold v_T
    rw [f' 37 (by decide), f' 38 (by decide), f' 87 (by decide), f' 88 (by decide)]
    exact hT'
  · obtain ⟨a1', a2', a3', a4'⟩ := hL'
    refine ⟨a1', by rw [f' 36 (by decide)]; exact a2', by rw [f' 87 (by decide)]; exact a3', fun i' hi' => ?_⟩
    obtain ⟨β, n', cls', b1', b2', b3', b4'⟩ := a4' i' hi'
    have hlt' := p_gl b2'.2.2.2.2.1
    exact ⟨β, n', cls', by rw [e3' 51 i' (by omega)]; exact b1', t_LOE b2' e4' (fun _ h' => h'), by rw [e1' (lwf' i' + 1) (by omega)]; exact b3', by rw [f' 89 (by decide), f' 90 (by decide)]; exact b4'⟩
  · unfold v_LH
    rw [f' 36 (by decide), f' 87 (by decide), e3' 63 3 (by omega)]
    exact hLH'
  · obtain ⟨a1', a2', a3', a4', a5', a6'⟩ := hW'
    refine ⟨a1', by rw [f' 36 (by decide)]; exact a2', by rw [f' 87 (by decide)]; exact a3', fun i' hi' => t_WSE (a4' i' hi') e4' (fun _ h' => h'), by rw [e3' 36 13 (by omega)]; exact a5', fun i' hi' => ?_⟩
    obtain ⟨b1', sz', b2', b3', b4', b5', b6'⟩ := a6' i' hi'
    have hlt' := p_gl (a4' i' (by omega)).2.2.1
    exact ⟨by rw [e3' 52 i' (by omega)]; exact b1', sz', b2', by rw [e1' (wkf' i') (by omega)]; exact b3', by rw [f' 99 (by decide)]; exact b4', by rw [f' 98 (by decide), e1' (wkf' i' + 1) (by omega)]; exact b5', by rw [e1' (wkf' i' + 1) (by omega)]; exact b6'⟩
end PG'
