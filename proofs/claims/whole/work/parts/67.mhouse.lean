/-! the reference's house, from its first byte -/
/-- where the reference begins to read -/
def t_Ib (I' : p_I) (bg' n' : Int32) : p_I := q_u2 (q_u2 (q_u2 (q_u2 I' 87 8 bg') 87 9 n') 87 10 0) 87 11 (-1)
theorem t_IbF (I' : p_I) (bg' n' : Int32) : (∀ c', c' ≠ 87 → t_Ib I' bg' n' c' = I' c') ∧ (∀ j', ¬ (8 ≤ j' ∧ j' ≤ 11) → t_Ib I' bg' n' 87 j' = I' 87 j') ∧ t_Ib I' bg' n' 87 8 = bg' ∧ t_Ib I' bg' n' 87 9 = n' ∧ t_Ib I' bg' n' 87 10 = 0 ∧ t_Ib I' bg' n' 87 11 = -1 := by
  unfold t_Ib
  refine ⟨fun c' hc' => ?_, fun j' hj' => ?_, ?_, ?_, ?_, ?_⟩
  · rw [p_uc _ _ _ _ _ hc', p_uc _ _ _ _ _ hc', p_uc _ _ _ _ _ hc', p_uc _ _ _ _ _ hc']
  · simp (disch := omega) only [p_uj]
  · simp (disch := omega) only [p_uj, p_us]
  · simp (disch := omega) only [p_uj, p_us]
  · simp (disch := omega) only [p_uj, p_us]
  · rw [p_us]
section PH'
variable {X' : p_X} {I' : p_I} {β : Nat → Nat} {n' : Nat}
theorem s_starts (hB' : p_B X') (tc' : Nat) (bg' l3' : Int32) : F_X12_starts 87 tc' bg' l3' (I', X') = some ((), (t_Ib I' bg' l3', p_T X' (tc' + 1))) := by
  unfold F_X12_starts
  rw [p_pR (sh_87 hB') (by decide)]
  have hB' := p_BT hB' (tc' + 1)
  have e' : (X'.1, q_u2 X'.2.1 87 5 (tc' + 1), X'.2.2) = p_T X' (tc' + 1) := rfl
  rw [e']
  simp (disch := omega) only [↓ce_87 hB', rf_87 hB', ↓nn_31, ↓nn_33, ↓nn_89, ↓nn_90, ↓nn_91, ↓nn_92, ↓nn_93, ↓nn_94, ↓nn_95, ↓nn_96, ↓nn_97, ↓nn_98, ↓nn_99, ↓nn_100, ↓nn_101, ↓nn_102, ↓nn_103, ↓nn_104, ↓nn_105, ↓nn_106, ↓nn_107, ↓nn_108, p_bs, p_rq0, p_rq1, p_rz0, p_rz1, p_us, p_un, p_uj, ↓reduceIte]
  rfl
theorem p_Tv (X' : p_X) (v' : Nat) : (p_T X' v').2.1 87 5 = v' := by
  show q_u2 X'.2.1 87 5 v' 87 5 = v'
  simp [q_u2, va_up]
theorem t_RT0 (h6' : I' 87 6 = Int32.ofNat n') (hn' : n' ≤ 240) (hb' : ∀ i', i' < n' → I' 88 i' = t_by (β i')) (hβ : ∀ i', i' < n' → β i' < 256) : t_RT β n' 88 0 (t_Ib I' 0 (I' 87 6)) (p_T X' 89) := by
  obtain ⟨f1', f2', f3', f4', f5', f6'⟩ := t_IbF I' 0 (I' 87 6)
  refine ⟨p_Tv X' 89, .inl ⟨rfl, rfl⟩, f3', by rw [f4', h6'], hn', fun i' hi' => ?_, hβ⟩
  rw [f1' 88 (by decide), Nat.zero_add]
  exact hb' i' hi'
theorem s_readHouse (hB' : p_B X') (hS' : p_S I') (h6' : I' 87 6 = Int32.ofNat n') (hn' : n' ≤ 240) (hb' : ∀ i', i' < n' → I' 88 i' = t_by (β i')) (hβ : ∀ i', i' < n' → β i' < 256) :
    ∃ J', F_X12_readHouse 87 (I', X') = some ((), (J', p_T X' 89)) ∧ ((∃ x', t_hou β n' 13 0 t_h0 = .inl x' ∧ t_MY (t_Ib I' 0 (I' 87 6)) x' J' ∧ x' ≤ n') ∨ (∃ x' h', t_hou β n' 13 0 t_h0 = .inr h' ∧ t_MH (t_Ib I' 0 (I' 87 6)) x' h' J')) := by
  have hR' := t_RT0 (X' := X') h6' hn' hb' hβ
  have hst' := s_starts (I' := I') hB' 88 0 (I' 87 6)
  unfold F_X12_readHouse
  simp (disch := omega) only [↓ce_87 hB', rf_87 hB', ↓nn_31, ↓nn_33, ↓nn_89, ↓nn_90, ↓nn_91, ↓nn_92, ↓nn_93, ↓nn_94, ↓nn_95, ↓nn_96, ↓nn_97, ↓nn_98, ↓nn_99, ↓nn_100, ↓nn_101, ↓nn_102, ↓nn_103, ↓nn_104, ↓nn_105, ↓nn_106, ↓nn_107, ↓nn_108, p_bs, p_rq0, p_rq1, p_rz0, p_rz1, p_us, p_un, p_uj, ↓reduceIte, hst']
  obtain ⟨f1', f2', f3', f4', f5', f6'⟩ := t_IbF I' 0 (I' 87 6)
  generalize t_Ib I' 0 (I' 87 6) = Ib' at *
  have hB' := p_BT hB' 89
  rw [show (88 + 1 : Nat) = 89 from rfl]
  generalize p_T X' 89 = X1' at *
  simp (disch := omega) only [↓ce_87 hB', rf_87 hB', ↓nn_31, ↓nn_33, ↓nn_89, ↓nn_90, ↓nn_91, ↓nn_92, ↓nn_93, ↓nn_94, ↓nn_95, ↓nn_96, ↓nn_97, ↓nn_98, ↓nn_99, ↓nn_100, ↓nn_101, ↓nn_102, ↓nn_103, ↓nn_104, ↓nn_105, ↓nn_106, ↓nn_107, ↓nn_108, p_bs, p_rq0, p_rq1, p_rz0, p_rz1, p_us, p_un, p_uj, ↓reduceIte]
  generalize hI2' : q_u2 (q_u2 (q_u2 Ib' 87 28 0) 87 29 0) 87 31 0 = I2'
  have g2' : ∀ c', c' ≠ 87 → I2' c' = Ib' c' := fun c' hc' => by rw [← hI2', p_uc _ _ _ _ _ hc', p_uc _ _ _ _ _ hc', p_uc _ _ _ _ _ hc']
  have g2j : ∀ j', j' ≠ 28 → j' ≠ 29 → j' ≠ 31 → I2' 87 j' = Ib' 87 j' := fun j' h1' h2' h3' => by rw [← hI2', p_uj _ _ _ _ _ h3', p_uj _ _ _ _ _ h2', p_uj _ _ _ _ _ h1']
  have g28' : I2' 87 28 = 0 := by rw [← hI2']; simp (disch := omega) only [p_us, p_uj]
  have g29' : I2' 87 29 = 0 := by rw [← hI2']; simp (disch := omega) only [p_us, p_uj]
  have g31' : I2' 87 31 = 0 := by rw [← hI2']; simp (disch := omega) only [p_us, p_uj]
  obtain ⟨z0', u1', J0', rfl, u2', u3'⟩ := p_lp (fun z' => B_X12_readHouse_30 87 z'.1 z'.2) (fun i' z' => ∃ J', z' = (Int32.ofNat i', (J', X1')) ∧ (∀ c', c' ≠ 93 → J' c' = I2' c') ∧ (∀ k', k' < i' → J' 93 k' = Int32.ofNat (t_K0.2.2.2.2 k')))
    (fun z' => ∃ J', z' = (J', X1') ∧ (∀ c', c' ≠ 93 → J' c' = I2' c') ∧ (∀ k', k' < 3 → J' 93 k' = Int32.ofNat (t_K0.2.2.2.2 k'))) 3 (by
      rintro i' z' hi' ⟨J', rfl, j1', j2'⟩
      unfold B_X12_readHouse_30
      by_cases hlt' : i' < 3
      · left
        have hu' := (t_mk0.1 i' hlt' (J', X1')).1
        simp (disch := omega) only [↓ce_87 hB', rf_87 hB', ↓ce_93 hB', ↓nn_31, ↓nn_33, ↓nn_89, ↓nn_90, ↓nn_91, ↓nn_92, ↓nn_93, ↓nn_94, ↓nn_95, ↓nn_96, ↓nn_97, ↓nn_98, ↓nn_99, ↓nn_100, ↓nn_101, ↓nn_102, ↓nn_103, ↓nn_104, ↓nn_105, ↓nn_106, ↓nn_107, ↓nn_108, p_bs, p_rq0, p_rq1, p_rz0, p_rz1, p_us, p_un, p_uj, ↓reduceIte, p_cm, hlt', hu', p_ar]
        refine ⟨_, rfl, True.intro, _, rfl, ?_, ?_⟩
        · intro c' hc'; rw [p_uc _ _ _ _ _ hc']; exact j1' c' hc'
        · intro k' hk'
          by_cases e' : k' = i'
          · subst e'; rw [p_us]
          · rw [p_uj _ _ _ _ _ e']; exact j2' k' (by omega)
      · right
        have hi'' : i' = 3 := by omega
        subst hi''
        simp (disch := omega) only [p_bs, p_rq0, p_rq1, p_rz0, p_rz1, p_us, p_un, p_uj, ↓reduceIte, p_cm, Nat.lt_irrefl]
        exact ⟨_, rfl, J', rfl, j1', j2'⟩) 3 0 q_fu (0, (I2', X1')) (by omega) (by unfold q_fu; omega) ⟨I2', rfl, fun _ _ => rfl, fun k' hk' => absurd hk' (by omega)⟩
  rw [u1']
  simp only [p_bs]
  have hS'' : p_S Ib' := fun k' hk' => by rw [f1' k' (by omega)]; exact hS' k' hk'
  have hC0' : t_MH Ib' 0 t_h0 J0' := by
    refine ⟨fun c' h3' h4' h5' h6' => by rw [u2' c' h4', g2' c' h3'], fun j' h3' h4' h5' h6' => by rw [u2' 87 (by decide), g2j j' h4' h5' h6'], by rw [u2' 87 (by decide), g2j 10 (by decide) (by decide) (by decide)]; exact f5', u3', fun j' hj' => absurd hj' (Nat.not_lt_zero j'), fun j' hj' => absurd hj' (Nat.not_lt_zero j'), by rw [u2' 87 (by decide)]; exact g28', by rw [u2' 87 (by decide)]; exact g29', by rw [u2' 87 (by decide)]; exact g31', by decide, by decide⟩
  obtain ⟨z', h1', J', rfl, h2'⟩ := p_lp (fun z' => B_X12_readHouse_55 87 z'.1 z'.2)
    (fun i' z' => (∃ J' e1' h', z' = (1, (J', X1')) ∧ t_MH Ib' e1' h' J' ∧ e1' ≤ n' ∧ t_nc h' = i' ∧ t_hou β n' (13 - i') e1' h' = t_hou β n' 13 0 t_h0) ∨
      (∃ J', z' = (0, (J', X1')) ∧ ((∃ x', t_hou β n' 13 0 t_h0 = .inl x' ∧ t_MY Ib' x' J' ∧ x' ≤ n') ∨ (∃ x' h', t_MH Ib' x' h' J' ∧ t_sk β n' x' = x' ∧ x' ≤ n' ∧ t_hou β n' 13 0 t_h0 = (if x' < n' then .inl x' else if 0 < h'.2.2.2.1 ∧ 0 < h'.2.2.2.2.1 then .inr h' else .inl x')))))
    (fun z' => ∃ J', z' = (J', X1') ∧ ((∃ x', t_hou β n' 13 0 t_h0 = .inl x' ∧ t_MY Ib' x' J' ∧ x' ≤ n') ∨ (∃ x' h', t_MH Ib' x' h' J' ∧ t_sk β n' x' = x' ∧ x' ≤ n' ∧ t_hou β n' 13 0 t_h0 = (if x' < n' then .inl x' else if 0 < h'.2.2.2.1 ∧ 0 < h'.2.2.2.2.1 then .inr h' else .inl x')))) 13 (by
      rintro i' z' hi' (⟨J', e1', h', rfl, j1', j2', j3', j4'⟩ | ⟨J', rfl, hJ'⟩)
      · left
        have hi12' : i' ≤ 12 := by
          have q1' := j1'.2.2.2.2.2.2.2.2.2.1
          have q2' := j1'.2.2.2.2.2.2.2.2.2.2
          unfold t_nc at j3'
          split at j3' <;> omega
        have g11' : J' 87 11 = -1 := by rw [j1'.2.1 11 (by decide) (by decide) (by decide) (by decide)]; exact f6'
        rw [show 13 - i' = (13 - (i' + 1)) + 1 by omega, t_hou] at j4'
        obtain ⟨J1', d1', d2'⟩ := s_mclause hB' hS'' hR' f6' j1' j2'
        unfold B_X12_readHouse_55 J_X12_readHouse_92_55 J_X12_readHouse_93_55
        simp (disch := omega) only [↓ce_87 hB', rf_87 hB', ↓nn_31, ↓nn_33, ↓nn_89, ↓nn_90, ↓nn_91, ↓nn_92, ↓nn_93, ↓nn_94, ↓nn_95, ↓nn_96, ↓nn_97, ↓nn_98, ↓nn_99, ↓nn_100, ↓nn_101, ↓nn_102, ↓nn_103, ↓nn_104, ↓nn_105, ↓nn_106, ↓nn_107, ↓nn_108, p_bs, p_rq0, p_rq1, p_rz0, p_rz1, p_us, p_un, p_uj, ↓reduceIte, show ((1 : Int32) = 0) = False from by decide, g11', d1']
        rcases d2' with ⟨x', e1'', e2', e3'⟩ | ⟨x', h'', e1'', e2', e3'⟩
        · rw [e1''] at j4'
          have fne' : ¬ J1' 87 11 = -1 := by rw [e2'.2.2]; exact p_of1 x' (by omega)
          simp only [fne', ↓reduceIte]
          exact ⟨_, rfl, by omega, .inr ⟨J1', rfl, .inl ⟨x', j4'.symm, e2', e3'⟩⟩⟩
        · rw [e1''] at j4'
          simp only at j4'
          have hN' := t_claN e1''
          have g11'' : J1' 87 11 = -1 := by rw [e2'.2.1 11 (by decide) (by decide) (by decide) (by decide)]; exact f6'
          obtain ⟨J2', b1', b2'⟩ := s_look hB' (t_RTh hR' e2') e2'.2.2.1 e3'
          have c1' := t_MHq e2' b2'
          have hU' := t_skU β n' x' e3'
          rw [show (59 : Int32) = Int32.ofNat 59 from rfl]
          simp (disch := omega) only [↓ce_87 hB', rf_87 hB', ↓nn_31, ↓nn_33, ↓nn_89, ↓nn_90, ↓nn_91, ↓nn_92, ↓nn_93, ↓nn_94, ↓nn_95, ↓nn_96, ↓nn_97, ↓nn_98, ↓nn_99, ↓nn_100, ↓nn_101, ↓nn_102, ↓nn_103, ↓nn_104, ↓nn_105, ↓nn_106, ↓nn_107, ↓nn_108, p_bs, p_rq0, p_rq1, p_rz0, p_rz1, p_us, p_un, p_uj, ↓reduceIte, g11'', b1', t_sgE2 hβ _ _ (show (59 : Nat) < 256 by decide), b2'.2.2, p_ar]
          by_cases hx' : t_sk β n' x' < n' ∧ β (t_sk β n' x') = 59
          · rw [if_pos hx'.1, if_pos hx'.2] at j4'
            simp only [hx', and_self, ↓reduceIte]
            exact ⟨_, rfl, by omega, .inl ⟨_, _, h'', rfl, t_MHq e2' (t_QEu b2'), by omega, by omega, j4'⟩⟩
          · simp only [hx', ↓reduceIte]
            refine ⟨_, rfl, by omega, .inr ⟨J2', rfl, .inr ⟨t_sk β n' x', h'', c1', t_skk β n' x', hU', ?_⟩⟩⟩
            rw [← j4']
            by_cases hy' : t_sk β n' x' < n'
            · rw [if_pos hy', if_pos hy', if_neg (fun q' => hx' ⟨hy', q'⟩)]
            · rw [if_neg hy', if_neg hy']
      · right
        unfold B_X12_readHouse_55
        simp only [↓reduceIte]
        exact ⟨_, rfl, J', rfl, hJ'⟩) 13 0 q_fu (1, (J0', X1')) (by omega) (by unfold q_fu; omega) (.inl ⟨J0', 0, t_h0, rfl, hC0', by omega, rfl, rfl⟩)
  rw [h1']
  simp only [p_bs]
  rcases h2' with ⟨x', c1', c2', c3'⟩ | ⟨x', h', c1', c2', c3', c4'⟩
  · have fne' : ¬ J' 87 11 = -1 := by rw [c2'.2.2]; exact p_of1 x' (by omega)
    simp (disch := omega) only [↓ce_87 hB', rf_87 hB', ↓nn_31, ↓nn_33, ↓nn_89, ↓nn_90, ↓nn_91, ↓nn_92, ↓nn_93, ↓nn_94, ↓nn_95, ↓nn_96, ↓nn_97, ↓nn_98, ↓nn_99, ↓nn_100, ↓nn_101, ↓nn_102, ↓nn_103, ↓nn_104, ↓nn_105, ↓nn_106, ↓nn_107, ↓nn_108, p_bs, p_rq0, p_rq1, p_rz0, p_rz1, p_us, p_un, p_uj, ↓reduceIte, fne']
    exact ⟨J', rfl, .inl ⟨x', c1', c2', c3'⟩⟩
  · have g11' : J' 87 11 = -1 := by rw [c1'.2.1 11 (by decide) (by decide) (by decide) (by decide)]; exact f6'
    obtain ⟨J2', b1', b2'⟩ := s_look hB' (t_RTh hR' c1') c1'.2.2.1 c3'
    rw [c2'] at b1' b2'
    have d1' := t_MHq c1' b2'
    have k11' : J2' 87 11 = -1 := by rw [b2'.2.1 11 (by decide)]; exact g11'
    have k28' := d1'.2.2.2.2.2.2.1
    have k29' := d1'.2.2.2.2.2.2.2.1
    have k5' := d1'.2.2.2.2.2.2.2.2.2.1
    have k6' := d1'.2.2.2.2.2.2.2.2.2.2
    have hF' := s_fails hB' b2'.2.2 k11'
    unfold J_X12_readHouse_141
    simp (disch := omega) only [↓ce_87 hB', rf_87 hB', ↓nn_31, ↓nn_33, ↓nn_89, ↓nn_90, ↓nn_91, ↓nn_92, ↓nn_93, ↓nn_94, ↓nn_95, ↓nn_96, ↓nn_97, ↓nn_98, ↓nn_99, ↓nn_100, ↓nn_101, ↓nn_102, ↓nn_103, ↓nn_104, ↓nn_105, ↓nn_106, ↓nn_107, ↓nn_108, p_bs, p_rq0, p_rq1, p_rz0, p_rz1, p_us, p_un, p_uj, ↓reduceIte, g11', b1', t_sgN2 hβ, k28', k29', p_cm, hF']
    rw [c4']
    by_cases hx' : x' < n'
    · simp only [hx', not_true_eq_false, ↓reduceIte]
      exact ⟨_, rfl, .inl ⟨x', rfl, t_MHx d1' (t_QEx (t_QEs b2'.2.2)), c3'⟩⟩
    · simp only [hx', not_false_eq_true, ↓reduceIte]
      by_cases h4' : h'.2.2.2.1 = 0
      · have : ¬ (0 < h'.2.2.2.1 ∧ 0 < h'.2.2.2.2.1) := by omega
        rw [if_neg this, if_pos h4']
        exact ⟨_, rfl, .inl ⟨x', rfl, t_MHx d1' (t_QEx (t_QEs b2'.2.2)), c3'⟩⟩
      · by_cases h5' : h'.2.2.2.2.1 = 0
        · have : ¬ (0 < h'.2.2.2.1 ∧ 0 < h'.2.2.2.2.1) := by omega
          rw [if_neg this, if_neg h4', if_pos h5']
          exact ⟨_, rfl, .inl ⟨x', rfl, t_MHx d1' (t_QEx (t_QEs b2'.2.2)), c3'⟩⟩
        · have : 0 < h'.2.2.2.1 ∧ 0 < h'.2.2.2.2.1 := by omega
          rw [if_pos this, if_neg h4', if_neg h5']
          exact ⟨_, rfl, .inr ⟨x', h', rfl, d1'⟩⟩
end PH'
