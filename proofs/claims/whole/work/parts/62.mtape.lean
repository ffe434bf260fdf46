/-! the reference's tape -/
def t_RT (β : Nat → Nat) (n' tc' bg' : Nat) (I' : p_I) (X' : p_X) : Prop := X'.2.1 87 5 = tc' + 1 ∧ ((tc' = 88 ∧ bg' = 0) ∨ (tc' = 89 ∧ bg' ≤ 720)) ∧ I' 87 8 = Int32.ofNat bg' ∧ I' 87 9 = Int32.ofNat n' ∧ n' ≤ 240 ∧ (∀ i', i' < n' → I' tc' (bg' + i') = t_by (β i')) ∧ (∀ i', i' < n' → β i' < 256)
/-- only the reader's place has moved -/
def t_QE (I' : p_I) (e' : Nat) (J' : p_I) : Prop := (∀ c', c' ≠ 87 → J' c' = I' c') ∧ (∀ j', j' ≠ 10 → J' 87 j' = I' 87 j') ∧ J' 87 10 = Int32.ofNat e'
/-- a fault at e -/
def t_QX (I' : p_I) (e' : Nat) (J' : p_I) : Prop := (∀ c', c' ≠ 87 → J' c' = I' c') ∧ (∀ j', j' ≠ 10 → j' ≠ 11 → J' 87 j' = I' 87 j') ∧ J' 87 11 = Int32.ofNat e'
theorem t_QEt {I' J' K' : p_I} {e' e'' : Nat} (h' : t_QE I' e' J') (h2' : t_QE J' e'' K') : t_QE I' e'' K' := ⟨fun c' hc' => by rw [h2'.1 c' hc', h'.1 c' hc'], fun j' h3' => by rw [h2'.2.1 j' h3', h'.2.1 j' h3'], h2'.2.2⟩
theorem t_QEX {I' J' K' : p_I} {e' e'' : Nat} (h' : t_QE I' e' J') (h2' : t_QX J' e'' K') : t_QX I' e'' K' := ⟨fun c' hc' => by rw [h2'.1 c' hc', h'.1 c' hc'], fun j' h3' h4' => by rw [h2'.2.1 j' h3' h4', h'.2.1 j' h3'], h2'.2.2⟩
theorem t_QEs {I' : p_I} {e' : Nat} (h' : I' 87 10 = Int32.ofNat e') : t_QE I' e' I' := ⟨fun _ _ => rfl, fun _ _ => rfl, h'⟩
theorem t_QEu {I' J' : p_I} {e' e'' : Nat} (h' : t_QE I' e' J') : t_QE I' e'' (q_u2 J' 87 10 (Int32.ofNat e'')) := ⟨fun c' hc' => by rw [p_uc _ _ _ _ _ hc']; exact h'.1 c' hc', fun j' h3' => by rw [p_uj _ _ _ _ _ h3']; exact h'.2.1 j' h3', p_us _ _ _ _⟩
theorem t_QEx {I' J' : p_I} {e' e'' : Nat} (h' : t_QE I' e' J') : t_QX I' e'' (q_u2 J' 87 11 (Int32.ofNat e'')) := ⟨fun c' hc' => by rw [p_uc _ _ _ _ _ hc']; exact h'.1 c' hc', fun j' h3' h4' => by rw [p_uj _ _ _ _ _ h4']; exact h'.2.1 j' h3', p_us _ _ _ _⟩
theorem t_RTk {β : Nat → Nat} {n' tc' bg' e' : Nat} {I' J' : p_I} {X' : p_X} (h' : t_RT β n' tc' bg' I' X') (hQ' : t_QE I' e' J') : t_RT β n' tc' bg' J' X' := by
  obtain ⟨a1', a2', a3', a4', a5', a6', a7'⟩ := h'
  exact ⟨a1', a2', by rw [hQ'.2.1 8 (by decide)]; exact a3', by rw [hQ'.2.1 9 (by decide)]; exact a4', a5', by rw [hQ'.1 tc' (by omega)]; exact a6', a7'⟩
theorem p_le (a' b' : Nat) (ha' : a' < 2147483648) (hb' : b' < 2147483648) : (Int32.ofNat a' ≤ Int32.ofNat b') = (a' ≤ b') := by
  rw [Int32.le_iff_toInt_le, p_toI a' ha', p_toI b' hb']
  simp
section PT'
variable {X' : p_X} {I' : p_I} {β : Nat → Nat} {n' e' tc' bg' : Nat}
theorem t_RTl {γ : Type} (hB' : p_B X') (hR' : t_RT β n' tc' bg' I' X') (e1' : Nat) (h1' : e1' < n') (f' : Int32 → Option γ) : q_lI (I', X') 1 tc' (Int32.ofNat (bg' + e1')) f' = f' (t_by (β e1')) := by
  obtain ⟨a1', a2', a3', a4', a5', a6', a7'⟩ := hR'
  rw [← a6' e1' h1']
  rcases a2' with ⟨rfl, rfl⟩ | ⟨rfl, h'⟩
  · exact p_lI (sh_88 hB') (by decide) I' _ f' (by omega)
  · exact p_lI (sh_89 hB') (by decide) I' _ f' (by omega)
theorem s_look (hB' : p_B X') (hR' : t_RT β n' tc' bg' I' X') (he' : I' 87 10 = Int32.ofNat e') (hen' : e' ≤ n') : ∃ J', F_X12_look 87 (I', X') = some (t_sg β n' (t_sk β n' e'), (J', X')) ∧ t_QE I' (t_sk β n' e') J' := by
  obtain ⟨a1', a2', a3', a4', a5', a6', a7'⟩ := id hR'
  obtain ⟨z', h1', J', rfl, h2'⟩ := p_lp (fun z' => B_X12_look_0 87 z') (fun i' z' => ∃ J', z' = (J', X') ∧ t_QE I' (e' + i') J' ∧ t_sk β n' (e' + i') = t_sk β n' e' ∧ e' + i' ≤ n')
    (fun z' => ∃ J', z' = (J', X') ∧ t_QE I' (t_sk β n' e') J') (n' - e') (by
      rintro i' z' hi' ⟨J', rfl, j1', j2', j3'⟩
      have hR'' := t_RTk hR' j1'
      have l8' : J' 87 8 = Int32.ofNat bg' := hR''.2.2.1
      have l9' : J' 87 9 = Int32.ofNat n' := hR''.2.2.2.1
      have l10' : J' 87 10 = Int32.ofNat (e' + i') := j1'.2.2
      unfold B_X12_look_0
      by_cases hlt' : e' + i' < n'
      · simp (disch := omega) only [↓ce_87 hB', rf_87 hB', ↓nn_31, ↓nn_33, ↓nn_89, ↓nn_90, ↓nn_91, ↓nn_92, ↓nn_93, ↓nn_94, ↓nn_95, ↓nn_96, ↓nn_97, ↓nn_98, ↓nn_99, ↓nn_100, ↓nn_101, ↓nn_102, ↓nn_103, ↓nn_104, ↓nn_105, ↓nn_106, ↓nn_107, ↓nn_108, p_bs, p_rq0, p_rq1, p_rz0, p_rz1, p_us, p_un, p_uj, ↓reduceIte, l8', l9', l10', p_lt, hlt', a1', p_nns, p_ar, t_RTl hB' hR'' _ hlt', t_by32 _ (a7' _ hlt')]
        by_cases h32' : β (e' + i') = 32
        · left
          simp only [h32', ↓reduceIte]
          refine ⟨_, rfl, by omega, _, rfl, t_QEu j1', ?_, by omega⟩
          rw [← j2', t_skS β n' _ hlt' h32']; rfl
        · right
          simp only [h32', ↓reduceIte]
          refine ⟨_, rfl, J', rfl, ?_⟩
          rw [← j2', t_skN β n' _ (fun h' => h32' h'.2)]
          exact j1'
      · right
        simp (disch := omega) only [↓ce_87 hB', rf_87 hB', ↓nn_31, ↓nn_33, ↓nn_89, ↓nn_90, ↓nn_91, ↓nn_92, ↓nn_93, ↓nn_94, ↓nn_95, ↓nn_96, ↓nn_97, ↓nn_98, ↓nn_99, ↓nn_100, ↓nn_101, ↓nn_102, ↓nn_103, ↓nn_104, ↓nn_105, ↓nn_106, ↓nn_107, ↓nn_108, p_bs, p_rq0, p_rq1, p_rz0, p_rz1, p_us, p_un, p_uj, ↓reduceIte, l9', l10', p_lt, hlt']
        refine ⟨_, rfl, J', rfl, ?_⟩
        rw [← j2', t_skN β n' _ (fun h' => hlt' h'.1)]
        exact j1') (n' - e') 0 q_fu (I', X') (by omega) (by unfold q_fu; omega) ⟨I', rfl, t_QEs he', rfl, by omega⟩
  have hR'' := t_RTk hR' h2'
  have l8' : J' 87 8 = Int32.ofNat bg' := hR''.2.2.1
  have l9' : J' 87 9 = Int32.ofNat n' := hR''.2.2.2.1
  have hU' := t_skU β n' e' hen'
  unfold F_X12_look
  rw [h1']
  simp (disch := omega) only [↓ce_87 hB', rf_87 hB', ↓nn_31, ↓nn_33, ↓nn_89, ↓nn_90, ↓nn_91, ↓nn_92, ↓nn_93, ↓nn_94, ↓nn_95, ↓nn_96, ↓nn_97, ↓nn_98, ↓nn_99, ↓nn_100, ↓nn_101, ↓nn_102, ↓nn_103, ↓nn_104, ↓nn_105, ↓nn_106, ↓nn_107, ↓nn_108, p_bs, p_rq0, p_rq1, p_rz0, p_rz1, p_us, p_un, p_uj, ↓reduceIte, l8', l9', h2'.2.2, p_lt]
  by_cases hlt' : t_sk β n' e' < n'
  · rw [t_sgP hlt']
    simp (disch := omega) only [↓ce_87 hB', rf_87 hB', ↓nn_31, ↓nn_33, ↓nn_89, ↓nn_90, ↓nn_91, ↓nn_92, ↓nn_93, ↓nn_94, ↓nn_95, ↓nn_96, ↓nn_97, ↓nn_98, ↓nn_99, ↓nn_100, ↓nn_101, ↓nn_102, ↓nn_103, ↓nn_104, ↓nn_105, ↓nn_106, ↓nn_107, ↓nn_108, p_bs, p_rq0, p_rq1, p_rz0, p_rz1, p_us, p_un, p_uj, ↓reduceIte, hlt', l8', a1', h2'.2.2, p_nns, p_ar, t_RTl hB' hR'' _ hlt', t_by255 _ (a7' _ hlt')]
    exact ⟨J', rfl, h2'⟩
  · rw [t_sgQ hlt']
    simp only [hlt', ↓reduceIte]
    exact ⟨J', rfl, h2'⟩
theorem s_fails (hB' : p_B X') (he' : I' 87 10 = Int32.ofNat e') (h11' : I' 87 11 = -1) : F_X12_fails 87 (I', X') = some (0, (q_u2 I' 87 11 (Int32.ofNat e'), X')) := by
  unfold F_X12_fails
  simp (disch := omega) only [↓ce_87 hB', rf_87 hB', ↓nn_31, ↓nn_33, ↓nn_89, ↓nn_90, ↓nn_91, ↓nn_92, ↓nn_93, ↓nn_94, ↓nn_95, ↓nn_96, ↓nn_97, ↓nn_98, ↓nn_99, ↓nn_100, ↓nn_101, ↓nn_102, ↓nn_103, ↓nn_104, ↓nn_105, ↓nn_106, ↓nn_107, ↓nn_108, p_bs, p_rq0, p_rq1, p_rz0, p_rz1, p_us, p_un, p_uj, ↓reduceIte, he', h11']
theorem s_failsN (hB' : p_B X') (h11' : I' 87 11 ≠ -1) : F_X12_fails 87 (I', X') = some (0, (I', X')) := by
  unfold F_X12_fails
  simp (disch := omega) only [↓ce_87 hB', rf_87 hB', ↓nn_31, ↓nn_33, ↓nn_89, ↓nn_90, ↓nn_91, ↓nn_92, ↓nn_93, ↓nn_94, ↓nn_95, ↓nn_96, ↓nn_97, ↓nn_98, ↓nn_99, ↓nn_100, ↓nn_101, ↓nn_102, ↓nn_103, ↓nn_104, ↓nn_105, ↓nn_106, ↓nn_107, ↓nn_108, p_bs, p_rq0, p_rq1, p_rz0, p_rz1, p_us, p_un, p_uj, ↓reduceIte, h11']
theorem s_mdig (hB' : p_B X') (hR' : t_RT β n' tc' bg' I' X') (he' : I' 87 10 = Int32.ofNat e') (hen' : e' ≤ n') : F_X12_isDigit 87 (I', X') = some (t_b (t_dg β n' e')) := by
  obtain ⟨a1', a2', a3', a4', a5', a6', a7'⟩ := id hR'
  unfold F_X12_isDigit t_dg
  simp (disch := omega) only [↓ce_87 hB', rf_87 hB', ↓nn_31, ↓nn_33, ↓nn_89, ↓nn_90, ↓nn_91, ↓nn_92, ↓nn_93, ↓nn_94, ↓nn_95, ↓nn_96, ↓nn_97, ↓nn_98, ↓nn_99, ↓nn_100, ↓nn_101, ↓nn_102, ↓nn_103, ↓nn_104, ↓nn_105, ↓nn_106, ↓nn_107, ↓nn_108, p_bs, p_rq0, p_rq1, p_rz0, p_rz1, p_us, p_un, p_uj, ↓reduceIte, he', a3', a4', p_lt]
  by_cases hlt' : e' < n'
  · simp (disch := omega) only [↓ce_87 hB', rf_87 hB', ↓nn_31, ↓nn_33, ↓nn_89, ↓nn_90, ↓nn_91, ↓nn_92, ↓nn_93, ↓nn_94, ↓nn_95, ↓nn_96, ↓nn_97, ↓nn_98, ↓nn_99, ↓nn_100, ↓nn_101, ↓nn_102, ↓nn_103, ↓nn_104, ↓nn_105, ↓nn_106, ↓nn_107, ↓nn_108, p_bs, p_rq0, p_rq1, p_rz0, p_rz1, p_us, p_un, p_uj, ↓reduceIte, hlt', a1', a3', he', p_nns, p_ar, t_RTl hB' hR' _ hlt']
    have := t_byd (β e') (a7' _ hlt') (I', X')
    simp only [p_rq0, p_rq1] at this
    rw [this]
    simp
  · simp only [hlt', ↓reduceIte, decide_false, Bool.false_and]
    rfl
theorem s_here (hB' : p_B X') (hR' : t_RT β n' tc' bg' I' X') (he' : I' 87 10 = Int32.ofNat e') (hen' : e' ≤ n') : F_X12_here 87 (I', X') = some (t_sg β n' e') := by
  obtain ⟨a1', a2', a3', a4', a5', a6', a7'⟩ := id hR'
  unfold F_X12_here
  simp (disch := omega) only [↓ce_87 hB', rf_87 hB', ↓nn_31, ↓nn_33, ↓nn_89, ↓nn_90, ↓nn_91, ↓nn_92, ↓nn_93, ↓nn_94, ↓nn_95, ↓nn_96, ↓nn_97, ↓nn_98, ↓nn_99, ↓nn_100, ↓nn_101, ↓nn_102, ↓nn_103, ↓nn_104, ↓nn_105, ↓nn_106, ↓nn_107, ↓nn_108, p_bs, p_rq0, p_rq1, p_rz0, p_rz1, p_us, p_un, p_uj, ↓reduceIte, he', a3', a4', p_lt]
  by_cases hlt' : e' < n'
  · rw [t_sgP hlt']
    simp (disch := omega) only [↓ce_87 hB', rf_87 hB', ↓nn_31, ↓nn_33, ↓nn_89, ↓nn_90, ↓nn_91, ↓nn_92, ↓nn_93, ↓nn_94, ↓nn_95, ↓nn_96, ↓nn_97, ↓nn_98, ↓nn_99, ↓nn_100, ↓nn_101, ↓nn_102, ↓nn_103, ↓nn_104, ↓nn_105, ↓nn_106, ↓nn_107, ↓nn_108, p_bs, p_rq0, p_rq1, p_rz0, p_rz1, p_us, p_un, p_uj, ↓reduceIte, hlt', a1', a3', he', p_nns, p_ar, t_RTl hB' hR' _ hlt', t_by255 _ (a7' _ hlt')]
  · rw [t_sgQ hlt']
    simp only [hlt', ↓reduceIte]
theorem p_s48 (x' : Nat) (h' : 48 ≤ x') : Int32.ofNat x' - 48 = Int32.ofNat (x' - 48) := p_osub x' 48 h'
/-- the number's end: bounds -/
theorem s_num67 (hB' : p_B X') (hR' : t_RT β n' tc' bg' I' X') (he' : I' 87 10 = Int32.ofNat e') (hen' : e' ≤ n') (he0' : 0 < e') (h11' : I' 87 11 = -1) (lo' hi' v' : Nat) (hv' : v' < 1000) (hlo' : lo' < 1000) (hhi' : hi' < 1000) :
    J_X12_number_67 87 (Int32.ofNat lo') (Int32.ofNat hi') (Int32.ofNat v') (I', X') = if t_dg β n' e' = true then some (0, (q_u2 I' 87 11 (Int32.ofNat e'), X')) else if lo' ≤ v' ∧ v' ≤ hi' then some (Int32.ofNat v', (I', X')) else some (Int32.ofNat v', (q_u2 (q_u2 I' 87 10 (Int32.ofNat (e' - 1))) 87 11 (Int32.ofNat (e' - 1)), X')) := by
  have hD' := s_mdig hB' hR' he' hen'
  have hF' := s_fails hB' he' h11'
  have hF2' := s_fails (I' := q_u2 I' 87 10 (Int32.ofNat (e' - 1))) (e' := e' - 1) hB' (by rw [p_us]) (by rw [p_uj _ _ _ _ _ (by decide)]; exact h11')
  unfold J_X12_number_67
  simp (disch := omega) only [↓ce_87 hB', rf_87 hB', ↓nn_31, ↓nn_33, ↓nn_89, ↓nn_90, ↓nn_91, ↓nn_92, ↓nn_93, ↓nn_94, ↓nn_95, ↓nn_96, ↓nn_97, ↓nn_98, ↓nn_99, ↓nn_100, ↓nn_101, ↓nn_102, ↓nn_103, ↓nn_104, ↓nn_105, ↓nn_106, ↓nn_107, ↓nn_108, p_bs, p_rq0, p_rq1, p_rz0, p_rz1, p_us, p_un, p_uj, ↓reduceIte, hD', t_b0, s_isIn3, p_le, hF', he', p_sub1, hF2']
  cases t_dg β n' e'
  · simp only [↓reduceIte, Bool.false_eq_true]
    by_cases hb' : lo' ≤ v' ∧ v' ≤ hi'
    · simp [hb']
    · have : (decide (lo' ≤ v') && decide (v' ≤ hi')) = false := by
        rw [Bool.eq_false_iff]; intro h'; rw [Bool.and_eq_true, decide_eq_true_eq, decide_eq_true_eq] at h'; exact hb' h'
      simp only [this, hb', ↓reduceIte]
  · simp
theorem s_number (hB' : p_B X') (hR' : t_RT β n' tc' bg' I' X') (he' : I' 87 10 = Int32.ofNat e') (hen' : e' ≤ n') (h11' : I' 87 11 = -1) (lo' hi' : Nat) (hlo' : lo' < 1000) (hhi' : hi' < 1000) :
    (∃ x' v' J', t_nm β n' 2 lo' hi' e' = .inl x' ∧ F_X12_number 87 (Int32.ofNat lo') (Int32.ofNat hi') (I', X') = some (v', (J', X')) ∧ t_QX I' x' J') ∨
    (∃ x' v' J', t_nm β n' 2 lo' hi' e' = .inr (x', v') ∧ F_X12_number 87 (Int32.ofNat lo') (Int32.ofNat hi') (I', X') = some (Int32.ofNat v', (J', X')) ∧ t_QE I' x' J') := by
  obtain ⟨J', h1', h2'⟩ := s_look hB' hR' he' hen'
  have hU' := t_skU β n' e' hen'
  have hR1' := t_RTk hR' h2'
  have hD' := s_mdig hB' hR1' h2'.2.2 hU'
  have g11' : J' 87 11 = -1 := by rw [h2'.2.1 11 (by decide)]; exact h11'
  have hF' := s_fails hB' h2'.2.2 g11'
  unfold F_X12_number t_nm
  simp (disch := omega) only [↓ce_87 hB', rf_87 hB', ↓nn_31, ↓nn_33, ↓nn_89, ↓nn_90, ↓nn_91, ↓nn_92, ↓nn_93, ↓nn_94, ↓nn_95, ↓nn_96, ↓nn_97, ↓nn_98, ↓nn_99, ↓nn_100, ↓nn_101, ↓nn_102, ↓nn_103, ↓nn_104, ↓nn_105, ↓nn_106, ↓nn_107, ↓nn_108, p_bs, p_rq0, p_rq1, p_rz0, p_rz1, p_us, p_un, p_uj, ↓reduceIte, h1', hD', t_b0, hF', h2'.2.2, p_ar]
  by_cases hg' : t_dg β n' (t_sk β n' e') = true
  · obtain ⟨g1', g2', g3'⟩ := t_dgE hg'
    have q1' := t_QEu (e'' := t_sk β n' e' + 1) h2'
    have hR2' := t_RTk hR' q1'
    have hD2' := s_mdig hB' hR2' q1'.2.2 (by omega)
    have k11' : ∀ x', q_u2 J' 87 10 x' 87 11 = -1 := fun x' => by rw [p_uj _ _ _ _ _ (by decide)]; exact g11'
    simp only [hg', Bool.true_eq_false, ↓reduceIte, hD2', p_bs, t_b0]
    by_cases hg2' : t_dg β n' (t_sk β n' e' + 1) = true
    · obtain ⟨k1', k2', k3'⟩ := t_dgE hg2'
      have hH' := s_here hB' hR2' q1'.2.2 (by omega)
      have q2' := t_QEu (e'' := t_sk β n' e' + 1 + 1) q1'
      have hR3' := t_RTk hR' q2'
      rw [t_sgP k1'] at hH'
      have hnum := s_num67 hB' hR3' q2'.2.2 (by omega) (by omega) (by rw [p_uj _ _ _ _ _ (by decide)]; exact k11' _) lo' hi' (10 * (β (t_sk β n' e') - 48) + (β (t_sk β n' e' + 1) - 48)) (by omega) hlo' hhi'
      have hv' : Int32.ofNat (10 * (β (t_sk β n' e') - 48) + β (t_sk β n' e' + 1)) - 48 = Int32.ofNat (10 * (β (t_sk β n' e') - 48) + (β (t_sk β n' e' + 1) - 48)) := by
        rw [p_s48 _ (by omega)]
        congr 1
        omega
      rw [t_sgP g1']
      simp (disch := omega) only [↓ce_87 hB', rf_87 hB', ↓nn_31, ↓nn_33, ↓nn_89, ↓nn_90, ↓nn_91, ↓nn_92, ↓nn_93, ↓nn_94, ↓nn_95, ↓nn_96, ↓nn_97, ↓nn_98, ↓nn_99, ↓nn_100, ↓nn_101, ↓nn_102, ↓nn_103, ↓nn_104, ↓nn_105, ↓nn_106, ↓nn_107, ↓nn_108, p_bs, p_rq0, p_rq1, p_rz0, p_rz1, p_us, p_un, p_uj, ↓reduceIte, hg2', Bool.true_eq_false, hH', q1'.2.2, p_ar, p_s48, hv', hnum]
      have hds' : t_dgs β n' 2 (t_sk β n' e') 0 = if t_dg β n' (t_sk β n' e' + 1 + 1) = true then .inl (t_sk β n' e' + 1 + 1) else .inr (t_sk β n' e' + 1 + 1, 10 * (β (t_sk β n' e') - 48) + (β (t_sk β n' e' + 1) - 48)) := by
        rw [t_dgs, if_pos hg2', t_dgs, t_dgs]
        simp
      rw [hds']
      by_cases hg3' : t_dg β n' (t_sk β n' e' + 1 + 1) = true
      · left
        simp only [hg3', ↓reduceIte]
        exact ⟨_, _, _, rfl, rfl, t_QEx q2'⟩
      · simp only [hg3', ↓reduceIte, Bool.false_eq_true]
        by_cases hb' : lo' ≤ 10 * (β (t_sk β n' e') - 48) + (β (t_sk β n' e' + 1) - 48) ∧ 10 * (β (t_sk β n' e') - 48) + (β (t_sk β n' e' + 1) - 48) ≤ hi'
        · right
          simp only [hb', and_self, ↓reduceIte]
          exact ⟨_, _, _, rfl, rfl, q2'⟩
        · left
          simp only [hb', ↓reduceIte]
          exact ⟨_, _, _, rfl, rfl, t_QEx (t_QEu q2')⟩
    · have hnum := s_num67 hB' hR2' q1'.2.2 (by omega) (by omega) (k11' _) lo' hi' (β (t_sk β n' e') - 48) (by omega) hlo' hhi'
      have hg2'' : t_dg β n' (t_sk β n' e' + 1) = false := by simpa using hg2'
      rw [t_sgP g1']
      simp (disch := omega) only [hg2'', ↓reduceIte, p_s48, hnum, Bool.false_eq_true]
      have hds' : t_dgs β n' 2 (t_sk β n' e') 0 = .inr (t_sk β n' e' + 1, β (t_sk β n' e') - 48) := by
        rw [t_dgs, if_neg hg2']
        simp
      rw [hds']
      by_cases hb' : lo' ≤ β (t_sk β n' e') - 48 ∧ β (t_sk β n' e') - 48 ≤ hi'
      · right
        simp only [hb', and_self, ↓reduceIte]
        exact ⟨_, _, _, rfl, rfl, q1'⟩
      · left
        simp only [hb', ↓reduceIte]
        exact ⟨_, _, _, rfl, rfl, t_QEx (t_QEu q1')⟩
  · left
    have hg'' : t_dg β n' (t_sk β n' e') = false := by simpa using hg'
    simp only [hg'', ↓reduceIte, Bool.false_eq_true]
    exact ⟨_, _, _, rfl, rfl, t_QEx h2'⟩
theorem s_mdigit (hB' : p_B X') (hR' : t_RT β n' tc' bg' I' X') (he' : I' 87 10 = Int32.ofNat e') (hen' : e' ≤ n') (h11' : I' 87 11 = -1) :
    (t_dg β n' (t_sk β n' e') = false ∧ ∃ v' J', F_X12_digit 87 (I', X') = some (v', (J', X')) ∧ t_QX I' (t_sk β n' e') J') ∨
    (t_dg β n' (t_sk β n' e') = true ∧ ∃ J', F_X12_digit 87 (I', X') = some (Int32.ofNat (β (t_sk β n' e') - 48), (J', X')) ∧ t_QE I' (t_sk β n' e' + 1) J') := by
  obtain ⟨J', h1', h2'⟩ := s_look hB' hR' he' hen'
  have hU' := t_skU β n' e' hen'
  have hR1' := t_RTk hR' h2'
  have hD' := s_mdig hB' hR1' h2'.2.2 hU'
  have g11' : J' 87 11 = -1 := by rw [h2'.2.1 11 (by decide)]; exact h11'
  have hF' := s_fails hB' h2'.2.2 g11'
  unfold F_X12_digit
  simp (disch := omega) only [↓ce_87 hB', rf_87 hB', ↓nn_31, ↓nn_33, ↓nn_89, ↓nn_90, ↓nn_91, ↓nn_92, ↓nn_93, ↓nn_94, ↓nn_95, ↓nn_96, ↓nn_97, ↓nn_98, ↓nn_99, ↓nn_100, ↓nn_101, ↓nn_102, ↓nn_103, ↓nn_104, ↓nn_105, ↓nn_106, ↓nn_107, ↓nn_108, p_bs, p_rq0, p_rq1, p_rz0, p_rz1, p_us, p_un, p_uj, ↓reduceIte, h1', hD', t_b0, hF', h2'.2.2, p_ar]
  by_cases hg' : t_dg β n' (t_sk β n' e') = true
  · right
    obtain ⟨g1', g2', g3'⟩ := t_dgE hg'
    rw [t_sgP g1', p_s48 _ g2']
    simp only [hg', Bool.true_eq_false, ↓reduceIte]
    exact ⟨trivial, _, rfl, t_QEu h2'⟩
  · left
    have hg'' : t_dg β n' (t_sk β n' e') = false := by simpa using hg'
    simp only [hg'', ↓reduceIte]
    exact ⟨trivial, _, _, rfl, t_QEx h2'⟩
theorem s_readDigit (hB' : p_B X') (hT' : t_TP β n' e' I') :
    (t_dg β n' (t_sk β n' e') = false ∧ ∃ J', F_X9_readDigit 37 (I', X') = some (0, (J', X')) ∧ t_PE I' (t_sk β n' e') J') ∨
    (t_dg β n' (t_sk β n' e') = true ∧ ∃ J', F_X9_readDigit 37 (I', X') = some (1, (J', X')) ∧ t_PE I' (t_sk β n' e' + 1) J' ∧ J' 37 3 = Int32.ofNat (β (t_sk β n' e') - 48)) := by
  obtain ⟨J', h1', h2', -⟩ := s_peek hB' hT'
  have hD' := s_isDigit hT' (t_sk β n' e') (J', X')
  unfold F_X9_readDigit
  simp (disch := omega) only [↓ce_37 hB', rf_37 hB', ↓nn_39, p_bs, p_rq0, p_rq1, p_rz0, p_rz1, p_us, p_un, p_uj, ↓reduceIte, h1', hD', t_b0, h2'.2.2, p_ar]
  by_cases hg' : t_dg β n' (t_sk β n' e') = true
  · right
    obtain ⟨g1', g2', g3'⟩ := t_dgE hg'
    rw [t_sgP g1', p_s48 _ g2']
    simp only [hg', Bool.true_eq_false, ↓reduceIte]
    refine ⟨trivial, _, rfl, t_PEu ⟨fun c' hc' => by rw [p_uc _ _ _ _ _ hc']; exact h2'.1 c' hc', fun j' q1' q2' => by rw [p_uj _ _ _ _ _ q2']; exact h2'.2.1 j' q1' q2', by rw [p_uj _ _ _ _ _ (by decide)]; exact h2'.2.2⟩, ?_⟩
    rw [p_uj _ _ _ _ _ (by decide), p_us]
  · left
    have hg'' : t_dg β n' (t_sk β n' e') = false := by simpa using hg'
    simp only [hg'', ↓reduceIte]
    exact ⟨trivial, _, rfl, h2'⟩
theorem t_sgE2 (hβ : ∀ i', i' < n' → β i' < 256) (e1' y' : Nat) (hy' : y' < 256) : (t_sg β n' e1' = Int32.ofNat y') = (e1' < n' ∧ β e1' = y') := by
  unfold t_sg
  refine propext ⟨fun h' => ?_, fun h' => by rw [if_pos h'.1, h'.2]⟩
  by_cases hlt' : e1' < n'
  · rw [if_pos hlt', p_eq _ _ (Nat.lt_trans (hβ _ hlt') (by omega)) (by omega)] at h'
    exact ⟨hlt', h'⟩
  · rw [if_neg hlt'] at h'
    have := p_ofN1 y' (by omega)
    rw [← h'] at this
    exact absurd rfl (fun z' => this ▸ z')
theorem t_sgN2 (hβ : ∀ i', i' < n' → β i' < 256) (e1' : Nat) : (t_sg β n' e1' = -1) = ¬ e1' < n' := by
  unfold t_sg
  by_cases hlt' : e1' < n'
  · rw [if_pos hlt', p_ofN1 _ (Nat.lt_trans (hβ _ hlt') (by omega))]
    simp [hlt']
  · simp [hlt']
theorem t_isE {e1' y' : Nat} : (e1' < n' ∧ β e1' = y') = (t_is β n' e1' y' = true) := by
  unfold t_is
  simp
theorem s_takes (hB' : p_B X') (hR' : t_RT β n' tc' bg' I' X') (he' : I' 87 10 = Int32.ofNat e') (hen' : e' ≤ n') (h11' : I' 87 11 = -1) (y' : Nat) (hy' : y' < 256) :
    (t_is β n' (t_sk β n' e') y' = false ∧ ∃ J', F_X12_takes 87 (Int32.ofNat y') (I', X') = some (0, (J', X')) ∧ t_QX I' (t_sk β n' e') J') ∨
    (t_is β n' (t_sk β n' e') y' = true ∧ ∃ J', F_X12_takes 87 (Int32.ofNat y') (I', X') = some (1, (J', X')) ∧ t_QE I' (t_sk β n' e' + 1) J') := by
  obtain ⟨J', h1', h2'⟩ := s_look hB' hR' he' hen'
  have g11' : J' 87 11 = -1 := by rw [h2'.2.1 11 (by decide)]; exact h11'
  have hF' := s_fails hB' h2'.2.2 g11'
  unfold F_X12_takes J_X12_takes_16
  simp (disch := omega) only [↓ce_87 hB', rf_87 hB', ↓nn_31, ↓nn_33, ↓nn_89, ↓nn_90, ↓nn_91, ↓nn_92, ↓nn_93, ↓nn_94, ↓nn_95, ↓nn_96, ↓nn_97, ↓nn_98, ↓nn_99, ↓nn_100, ↓nn_101, ↓nn_102, ↓nn_103, ↓nn_104, ↓nn_105, ↓nn_106, ↓nn_107, ↓nn_108, p_bs, p_rq0, p_rq1, p_rz0, p_rz1, p_us, p_un, p_uj, ↓reduceIte, h11', h1', t_sgE2 hR'.2.2.2.2.2.2 _ y' hy', t_isE, h2'.2.2, p_ar, hF']
  cases hx' : t_is β n' (t_sk β n' e') y'
  · left
    simp only [Bool.false_eq_true, ↓reduceIte]
    exact ⟨trivial, _, rfl, t_QEx h2'⟩
  · right
    simp only [↓reduceIte]
    exact ⟨trivial, _, rfl, t_QEu h2'⟩
theorem s_takesN (hB' : p_B X') (h11' : I' 87 11 ≠ -1) (y' : Int32) : F_X12_takes 87 y' (I', X') = some (0, (I', X')) := by
  unfold F_X12_takes J_X12_takes_16
  simp (disch := omega) only [↓ce_87 hB', rf_87 hB', ↓nn_31, ↓nn_33, ↓nn_89, ↓nn_90, ↓nn_91, ↓nn_92, ↓nn_93, ↓nn_94, ↓nn_95, ↓nn_96, ↓nn_97, ↓nn_98, ↓nn_99, ↓nn_100, ↓nn_101, ↓nn_102, ↓nn_103, ↓nn_104, ↓nn_105, ↓nn_106, ↓nn_107, ↓nn_108, p_bs, p_rq0, p_rq1, p_rz0, p_rz1, p_us, p_un, p_uj, ↓reduceIte, h11', s_failsN hB' h11']
end PT'
section PT'
variable {X' : p_X} {I' : p_I} {a' m' : Nat} {ts' : Nat → Nat}
theorem s_isAmong (hS' : t_SH a' ts' m' I' X') {β : Nat → Nat} {n' e' : Nat} (hβ : ∀ i', i' < n' → β i' < 256) : F_X12_isAmong a' (t_sg β n' e') (I', X') = some (t_b (t_pa β n' ts' m' e').isSome, (I', X')) := by
  have hl' := s_len hS'
  have h1' := hS'.1
  have h8' := hS'.2.2.2.2.2.2.2
  have h6' := hS'.2.2.2.2.2.1
  have hE' : ∀ i', i' < m' → (Int32.ofNat (ts' i') = t_sg β n' e') = (e' < n' ∧ ts' i' = β e') := by
    intro i' hi'
    have := h6' i' hi'
    by_cases he' : e' < n'
    · have := hβ e' he'
      rw [t_sgP he', p_eq _ _ (by omega) (by omega)]
      simp [he']
    · rw [t_sgQ he', p_ofN1 _ (by omega)]
      simp [he']
  obtain ⟨z', b1', b2'⟩ := p_lp (fun s' => B_X12_isAmong_2 a' (t_sg β n' e') s'.1 s'.2) (fun i' s' => s' = (Int32.ofNat i', (I', X')) ∧ (if e' < n' then t_ixf ts' (β e') (m' - i') i' else none) = t_pa β n' ts' m' e')
    (fun z' => ((t_pa β n' ts' m' e').isSome = true ∧ z' = .inl (I', X')) ∨ ((t_pa β n' ts' m' e').isSome = false ∧ z' = .inr (I', X'))) m' (by
      rintro i' s' hi' ⟨rfl, hr'⟩
      unfold B_X12_isAmong_2
      by_cases hlt' : i' < m'
      · have hc' := s_charAt hS' i' hlt'
        rw [show m' - i' = (m' - (i' + 1)) + 1 by omega, t_ixf] at hr'
        simp (disch := omega) only [p_ob h1', hl', p_bs, p_lt, hlt', ↓reduceIte, hc', hE' i' hlt', p_ar]
        by_cases he' : e' < n' ∧ ts' i' = β e'
        · right
          rw [if_pos he'.1, if_pos he'.2] at hr'
          simp only [he', and_self, ↓reduceIte]
          exact ⟨_, rfl, .inl ⟨by rw [← hr']; rfl, rfl⟩⟩
        · left
          simp only [he', ↓reduceIte]
          refine ⟨_, rfl, True.intro, rfl, ?_⟩
          by_cases h2' : e' < n'
          · rw [if_pos h2', if_neg (fun h' => he' ⟨h2', h'⟩)] at hr'
            rw [if_pos h2']; exact hr'
          · rw [if_neg h2'] at hr' ⊢; exact hr'
      · right
        have hi'' : i' = m' := by omega
        subst hi''
        rw [Nat.sub_self, t_ixf] at hr'
        simp (disch := omega) only [p_ob h1', hl', p_bs, p_lt, Nat.lt_irrefl, ↓reduceIte]
        exact ⟨_, rfl, .inr ⟨by rw [← hr']; split <;> rfl, rfl⟩⟩) m' 0 q_fu (0, (I', X')) (by omega) (by unfold q_fu; omega) ⟨rfl, rfl⟩
  unfold F_X12_isAmong
  simp only [b1', p_bs]
  rcases b2' with ⟨c1', rfl⟩ | ⟨c1', rfl⟩
  · rw [c1']; rfl
  · rw [c1']; rfl
end PT'
