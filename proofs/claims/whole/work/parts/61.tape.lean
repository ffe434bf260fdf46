/-! numbers and letters on the tape -/
theorem t_sgP {β : Nat → Nat} {n' e' : Nat} (h' : e' < n') : t_sg β n' e' = Int32.ofNat (β e') := if_pos h'
theorem t_sgQ {β : Nat → Nat} {n' e' : Nat} (h' : ¬ e' < n') : t_sg β n' e' = -1 := if_neg h'
theorem p_sub1 (x' : Nat) (h' : 0 < x') : Int32.ofNat x' - 1 = Int32.ofNat (x' - 1) := p_osub x' 1 h'
theorem p_sub0 (x' : Int32) : x' - 0 = x' := Int32.sub_zero x'
section PT'
variable {X' : p_X} {I' : p_I} {β : Nat → Nat} {n' e' : Nat}
theorem s_digits (hB' : p_B X') (hT' : t_TP β n' e' I') {J0' : p_I} {e0' d' : Nat} (hd' : d' ≤ 4) (h0' : t_PE I' e0' J0') (hg' : t_dg β n' e0' = true) (lo' hi' : Int32) :
    ∃ z', q_lp (fun z' => B_X9_readNumber_22 37 (Int32.ofNat d') lo' hi' z'.1 z'.2.1 z'.2.2.1 z'.2.2.2) q_fu (Int32.ofNat (β e0'), (0 : Int32), (0 : Int32), (J0', X')) = some z' ∧
      ((∃ x' J', t_dgs β n' d' e0' 0 = .inl x' ∧ z' = .inr (J', X') ∧ t_PE I' x' J') ∨ (∃ x' v' J', t_dgs β n' d' e0' 0 = .inr (x', v') ∧ v' < 10000 ∧ z' = .inl (Int32.ofNat v', (J', X')) ∧ t_PE I' x' J')) := by
  obtain ⟨a1', a2', a3', a4', a5', a6'⟩ := id hT'
  refine p_lp (fun z' => B_X9_readNumber_22 37 (Int32.ofNat d') lo' hi' z'.1 z'.2.1 z'.2.2.1 z'.2.2.2)
    (fun i' z' => ∃ J' e1' v', z' = (Int32.ofNat (β e1'), Int32.ofNat v', Int32.ofNat i', (J', X')) ∧ t_PE I' e1' J' ∧ t_dg β n' e1' = true ∧ v' < 10 ^ i' ∧ t_dgs β n' (d' - i') e1' v' = t_dgs β n' d' e0' 0)
    (fun z' => (∃ x' J', t_dgs β n' d' e0' 0 = .inl x' ∧ z' = .inr (J', X') ∧ t_PE I' x' J') ∨ (∃ x' v' J', t_dgs β n' d' e0' 0 = .inr (x', v') ∧ v' < 10000 ∧ z' = .inl (Int32.ofNat v', (J', X')) ∧ t_PE I' x' J')) d' ?_ d' 0 q_fu _ (by omega) (by unfold q_fu; omega) ⟨J0', e0', 0, rfl, h0', hg', by simp, rfl⟩
  rintro i' z' hid' ⟨J', e1', v', rfl, j1', j2', j3', j4'⟩
  obtain ⟨g1', g2', g3'⟩ := t_dgE j2'
  unfold B_X9_readNumber_22
  by_cases hlt' : i' < d'
  · rw [show d' - i' = (d' - (i' + 1)) + 1 by omega, t_dgs] at j4'
    have hp' : 10 ^ i' ≤ 1000 := Nat.le_trans (Nat.pow_le_pow_right (by decide) (show i' ≤ 3 by omega)) (by decide)
    have hp'' : 10 ^ (i' + 1) = 10 ^ i' * 10 := Nat.pow_succ 10 i'
    have hv' : Int32.ofNat (v' * 10 + β e1') - 48 = Int32.ofNat (10 * v' + (β e1' - 48)) := by
      rw [show (48 : Int32) = Int32.ofNat 48 from rfl, p_osub _ _ (by omega)]
      congr 1
      omega
    have l1' : J' 37 1 = Int32.ofNat n' := by rw [j1'.2.1 1 (by decide) (by decide)]; exact a1'
    have hJ' : ∀ M' : q_Mem, J_X9_readNumber_79_22 37 (Int32.ofNat d') lo' hi' (Int32.ofNat (10 * v' + (β e1' - 48))) (Int32.ofNat i') (t_sg β n' (e1' + 1)) M' = if t_dg β n' (e1' + 1) = true then some (.inl (t_sg β n' (e1' + 1), Int32.ofNat (10 * v' + (β e1' - 48)), Int32.ofNat (i' + 1), M')) else some (.inr (.inl (Int32.ofNat (10 * v' + (β e1' - 48)), M'))) := by
      intro M'
      unfold J_X9_readNumber_79_22
      rw [s_isDigit hT']
      simp only [p_bs, t_b0, p_ar]
      cases t_dg β n' (e1' + 1) <;> simp
    have hK' : B_X9_readNumber_22 37 (Int32.ofNat d') lo' hi' (Int32.ofNat (β e1')) (Int32.ofNat v') (Int32.ofNat i') (J', X') = (if t_dg β n' (e1' + 1) = true then some (.inl (t_sg β n' (e1' + 1), Int32.ofNat (10 * v' + (β e1' - 48)), Int32.ofNat (i' + 1), (q_u2 J' 37 2 (Int32.ofNat (e1' + 1)), X'))) else some (.inr (.inl (Int32.ofNat (10 * v' + (β e1' - 48)), (q_u2 J' 37 2 (Int32.ofNat (e1' + 1)), X'))))) := by
      unfold B_X9_readNumber_22
      simp (disch := omega) only [↓ce_37 hB', rf_37 hB', ↓ce_38 hB', ↓nn_39, p_bs, p_rq0, p_rq1, p_rz0, p_rz1, p_us, p_un, p_uj, ↓reduceIte, p_lt, hlt', j1'.2.2, l1', hv', p_ar]
      by_cases he' : e1' + 1 < n'
      · have l3' : J' 38 (e1' + 1) = t_by (β (e1' + 1)) := by rw [j1'.1 38 (by decide)]; exact a3' _ he'
        simp (disch := omega) only [↓ce_37 hB', rf_37 hB', ↓ce_38 hB', ↓nn_39, p_bs, p_rq0, p_rq1, p_rz0, p_rz1, p_us, p_un, p_uj, ↓reduceIte, he', l3', t_by255 _ (a6' _ he')]
        rw [← t_sgP he']
        exact hJ' _
      · simp only [he', ↓reduceIte]
        rw [← t_sgQ (β := β) he']
        exact hJ' _
    have hK'' := hK'
    unfold B_X9_readNumber_22 at hK''
    simp only
    rw [hK'']
    by_cases hg2' : t_dg β n' (e1' + 1) = true
    · left
      rw [if_pos hg2'] at j4' ⊢
      refine ⟨_, rfl, hlt', _, e1' + 1, _, by rw [t_sgP (t_dgE hg2').1], t_PEu j1', hg2', by omega, j4'⟩
    · right
      rw [if_neg hg2'] at j4' ⊢
      exact ⟨_, rfl, .inr ⟨e1' + 1, _, _, j4'.symm, by omega, rfl, t_PEu j1'⟩⟩
  · right
    have hi'' : i' = d' := by omega
    subst hi''
    rw [Nat.sub_self, t_dgs] at j4'
    simp (disch := omega) only [p_bs, p_rq0, p_rq1, p_rz0, p_rz1, p_us, p_un, p_uj, ↓reduceIte, p_lt, Nat.lt_irrefl]
    exact ⟨_, rfl, .inl ⟨e1', J', j4'.symm, rfl, j1'⟩⟩
theorem s_readNumber (hB' : p_B X') (hT' : t_TP β n' e' I') {d' lo' hi' : Nat} (hd' : d' ≤ 4) (hd0' : 0 < d') (hlo' : lo' < 10000) (hhi' : hi' < 10000) :
    (∃ x' J', t_nm β n' d' lo' hi' e' = .inl x' ∧ F_X9_readNumber 37 (Int32.ofNat d') (Int32.ofNat lo') (Int32.ofNat hi') (I', X') = some (0, (J', X')) ∧ t_PE I' x' J') ∨
    (∃ x' v' J', t_nm β n' d' lo' hi' e' = .inr (x', v') ∧ F_X9_readNumber 37 (Int32.ofNat d') (Int32.ofNat lo') (Int32.ofNat hi') (I', X') = some (1, (J', X')) ∧ t_PE I' x' J' ∧ J' 37 3 = Int32.ofNat v') := by
  obtain ⟨J', h1', h2', -⟩ := s_peek hB' hT'
  have hD' := s_isDigit hT' (t_sk β n' e') (J', X')
  unfold F_X9_readNumber t_nm
  simp (disch := omega) only [↓ce_37 hB', rf_37 hB', ↓nn_39, p_bs, p_rq0, p_rq1, p_rz0, p_rz1, p_us, p_un, p_uj, ↓reduceIte, h1', hD', t_b0]
  by_cases hg' : t_dg β n' (t_sk β n' e') = true
  · obtain ⟨g1', g2', g3'⟩ := t_dgE hg'
    have hg'' : ¬ t_dg β n' (t_sk β n' e') = false := by simp [hg']
    obtain ⟨z', b1', b2'⟩ := s_digits hB' hT' hd' h2' hg' (Int32.ofNat lo') (Int32.ofNat hi')
    rw [t_sgP g1']
    simp only [hg', hg'', ↓reduceIte, b1', p_bs]
    have hU' := t_dgsB (β := β) (n' := n') d' (t_sk β n' e') 0 g1'
    rcases b2' with ⟨x', K', c1', rfl, c3'⟩ | ⟨x', v', K', c1', c2', rfl, c3'⟩
    · left
      simp only [c1', p_rz0]
      exact ⟨x', K', rfl, rfl, c3'⟩
    · have hx' := hU'.2 x' v' c1'
      simp only [c1']
      unfold J_X9_readNumber_111 J_X9_readNumber_112 J_X9_readNumber_129
      have hc3' : t_PE I' x' (q_u2 K' 37 3 (Int32.ofNat v')) := ⟨fun c' hc' => by rw [p_uc _ _ _ _ _ hc']; exact c3'.1 c' hc', fun j' q1' q2' => by rw [p_uj _ _ _ _ _ q2']; exact c3'.2.1 j' q1' q2', by rw [p_uj _ _ _ _ _ (by decide)]; exact c3'.2.2⟩
      simp (disch := omega) only [↓ce_37 hB', rf_37 hB', ↓nn_39, p_bs, p_rq0, p_rq1, p_rz0, p_rz1, p_us, p_un, p_uj, ↓reduceIte, p_lt, c3'.2.2, p_sub1, p_sub0, show ((1 : Int32) = 0) = False from by decide]
      by_cases q1' : v' < lo'
      · left
        have : ¬ (lo' ≤ v' ∧ v' ≤ hi') := by omega
        simp only [q1', this, ↓reduceIte]
        exact ⟨x' - 1, _, rfl, rfl, t_PEu hc3'⟩
      · by_cases q2' : hi' < v'
        · left
          have : ¬ (lo' ≤ v' ∧ v' ≤ hi') := by omega
          simp only [q1', q2', this, ↓reduceIte]
          exact ⟨x' - 1, _, rfl, rfl, t_PEu hc3'⟩
        · right
          have : lo' ≤ v' ∧ v' ≤ hi' := by omega
          simp only [q1', q2', this, and_self, ↓reduceIte]
          refine ⟨x', v', _, rfl, rfl, t_PEu hc3', ?_⟩
          rw [p_uj _ _ _ _ _ (by decide), p_us]
  · left
    have hg'' : t_dg β n' (t_sk β n' e') = false := by simpa using hg'
    simp only [hg'', ↓reduceIte, Bool.false_eq_true, p_rz0]
    exact ⟨_, J', rfl, rfl, h2'⟩
end PT'
/-! texts of letters -/
def t_ixf (ts' : Nat → Nat) (y' : Nat) : Nat → Nat → Option Nat
  | 0, _ => none
  | f' + 1, i' => if ts' i' = y' then some i' else t_ixf ts' y' f' (i' + 1)
def t_ix (ts' : Nat → Nat) (m' y' : Nat) : Option Nat := t_ixf ts' y' m' 0
def t_pa (β : Nat → Nat) (n' : Nat) (ts' : Nat → Nat) (m' e' : Nat) : Option Nat := if e' < n' then t_ix ts' m' (β e') else none
theorem t_ixB (ts' : Nat → Nat) (y' f' i' k' : Nat) (h' : t_ixf ts' y' f' i' = some k') : k' < i' + f' ∧ ts' k' = y' := by
  induction f' generalizing i' with
  | zero => cases h'
  | succ f' ih' =>
    rw [t_ixf] at h'
    split at h'
    · cases h'; exact ⟨by omega, by assumption⟩
    · have := ih' (i' + 1) h'; exact ⟨by omega, this.2⟩
/-- a text constant: its cell, its letters -/
def t_SH (a' : Nat) (ts' : Nat → Nat) (m' : Nat) (I' : p_I) (X' : p_X) : Prop := X'.2.2[a']? = some (.inl 14) ∧ X'.2.1 a' 0 = a' + 1 + 1 ∧ X'.2.2[a' + 1]? = some (.inr (1, m')) ∧ I' a' 1 = 0 ∧ (∀ j', j' < m' → I' (a' + 1) j' = Int32.ofNat (ts' j')) ∧ (∀ j', j' < m' → ts' j' < 128) ∧ 0 < m' ∧ m' < 100
theorem p_sr0 (x' : Int32) : x' >>> ((0 : Int32) &&& 31) = x' := by
  rw [show (0 : Int32) &&& 31 = 0 from rfl]
  simp
theorem p_rtb : q_rt .byte 0 = some 0 := by decide
section PT'
variable {X' : p_X} {I' : p_I} {a' m' : Nat} {ts' : Nat → Nat}
theorem s_len (hS' : t_SH a' ts' m' I' X') : F_J0_length_8abf5 a' (I', X') = some (Int32.ofNat m') := by
  obtain ⟨h1', h2', h3', h4', h5', h6', h7', h8'⟩ := hS'
  unfold F_J0_length_8abf5 F_J0_coder_7d493
  rw [p_gR h1', h2', p_nns, p_al h3' (by decide), p_ob h1']
  simp only [show ((1 : Int32) = 0) = False from by decide, ↓reduceIte, p_gI h1', h4', p_rtb, p_bs, p_sr0]
theorem s_latin (hS' : t_SH a' ts' m' I' X') : F_J0_isLatin1_aae02 a' (I', X') = some 1 := by
  obtain ⟨h1', h2', h3', h4', h5', h6', h7', h8'⟩ := hS'
  unfold F_J0_isLatin1_aae02
  simp only [show ((1 : Int32) = 0) = False from by decide, ↓reduceIte, p_gI h1', h4', p_rq1]
theorem s_indexOf (hS' : t_SH a' ts' m' I' X') (y' : Nat) (hy' : y' < 256) : F_J0_indexOf_0f7a4 a' (Int32.ofNat y') (I', X') = some (t_nx (t_ix ts' m' y')) := by
  have hl' := s_len hS'
  have hla' := s_latin hS'
  obtain ⟨h1', h2', h3', h4', h5', h6', h7', h8'⟩ := hS'
  have hmx' : q_mx 0 0 = 0 := by decide
  have hmn' : q_mn (Int32.ofNat m') (Int32.ofNat m') = Int32.ofNat m' := by
    unfold q_mn
    split <;> rfl
  have hc' : F_J1_canEncode_9a6ad (Int32.ofNat y') (I', X') = some 1 := by
    unfold F_J1_canEncode_9a6ad
    rw [if_neg (p_nn y' (by omega)), show (255 : Int32) = Int32.ofNat 255 from rfl, if_neg (by rw [p_lt 255 y' (by omega) (by omega)]; omega)]
    rfl
  have h0' : (0 : Int32) < Int32.ofNat m' := by
    rw [show (0 : Int32) = Int32.ofNat 0 from rfl, p_lt 0 m' (by omega) (by omega)]; exact h7'
  obtain ⟨z', b1', b2'⟩ := p_lp (fun s' => B_J1_indexOfChar_4cfef_7 (a' + 1) (Int32.ofNat m') (Int32.ofNat y').toInt8.toInt32 s' (I', X')) (fun i' s' => s' = Int32.ofNat i' ∧ t_ixf ts' y' (m' - i') i' = t_ix ts' m' y')
    (fun z' => (∃ i', t_ix ts' m' y' = some i' ∧ z' = .inl (Int32.ofNat i')) ∨ (t_ix ts' m' y' = none ∧ z' = .inr ())) m' (by
      rintro i' s' hi' ⟨rfl, hr'⟩
      unfold B_J1_indexOfChar_4cfef_7
      by_cases hlt' : i' < m'
      · rw [show m' - i' = (m' - (i' + 1)) + 1 by omega, t_ixf] at hr'
        have hb' : (Int32.ofNat (ts' i') = (Int32.ofNat y').toInt8.toInt32) = (ts' i' = y') := t_byE y' (ts' i') hy' (h6' i' hlt')
        simp (disch := omega) only [p_lt, hlt', ↓reduceIte, p_lI h3' (by omega), h5', hb', p_ar]
        by_cases he' : ts' i' = y'
        · right
          rw [if_pos he'] at hr'
          simp only [he', ↓reduceIte]
          exact ⟨_, rfl, .inl ⟨i', hr'.symm, rfl⟩⟩
        · left
          rw [if_neg he'] at hr'
          simp only [he', ↓reduceIte]
          exact ⟨_, rfl, True.intro, rfl, hr'⟩
      · right
        have hi'' : i' = m' := by omega
        subst hi''
        rw [Nat.sub_self, t_ixf] at hr'
        simp (disch := omega) only [p_lt, Nat.lt_irrefl, ↓reduceIte]
        exact ⟨_, rfl, .inr ⟨hr'.symm, rfl⟩⟩) m' 0 q_fu 0 (by omega) (by unfold q_fu; omega) ⟨rfl, rfl⟩
  unfold F_J0_indexOf_0f7a4 F_J0_indexOf_7cf53 F_J1_indexOf_4cfef F_J1_indexOfChar_4cfef
  simp only [p_ob h1', hla', p_bs, show ((1 : Int32) = 0) = False from by decide, ↓reduceIte, p_gR h1', h2', p_nns, hl', hc', p_al h3' (show (1 : Nat) < 6 by decide), hmx', hmn', h0', b1']
  rcases b2' with ⟨i', c1', rfl⟩ | ⟨c1', rfl⟩
  · rw [c1']; rfl
  · rw [c1']; rfl
theorem s_charAt (hS' : t_SH a' ts' m' I' X') (i' : Nat) (hi' : i' < m') : F_J0_charAt_5068e a' (Int32.ofNat i') (I', X') = some (Int32.ofNat (ts' i'), (I', X')) := by
  have hla' := s_latin hS'
  obtain ⟨h1', h2', h3', h4', h5', h6', h7', h8'⟩ := hS'
  have hh' : ∀ x' : Fin 128, narrow .char (.int (((Int32.ofNat x' &&& 255).toUInt32 % 65536).toInt32)) = .int (((Int32.ofNat x' &&& 255).toUInt32 % 65536).toInt32) ∧ ((Int32.ofNat x' &&& 255).toUInt32 % 65536).toInt32 = Int32.ofNat x' := by decide +kernel
  obtain ⟨g1', g2'⟩ := hh' ⟨ts' i', h6' i' hi'⟩
  simp only [g2'] at g1'
  unfold F_J0_charAt_5068e F_J1_charAt_3b067 F_J0_checkIndex_df160 F_J3_checkIndex_8e157 q_rtm
  simp (disch := omega) only [p_ob h1', hla', p_bs, show ((1 : Int32) = 0) = False from by decide, ↓reduceIte, p_gR h1', h2', p_nns, p_al h3' (show (1 : Nat) < 6 by decide), p_nn, p_lt, hi', p_lI h3' (by omega), h5', g2', g1']
theorem s_spotOf (hS' : t_SH a' ts' m' I' X') {β : Nat → Nat} {n' e' : Nat} (hβ : ∀ i', i' < n' → β i' < 256) : F_X12_spotOf a' (t_sg β n' e') (I', X') = some (t_nx (t_pa β n' ts' m' e'), (I', X')) := by
  have hl' := s_len hS'
  have h1' := hS'.1
  have h8' := hS'.2.2.2.2.2.2.2
  have h6' := hS'.2.2.2.2.2.1
  have hE' : ∀ i', i' < m' → (Int32.ofNat (ts' i') = t_sg β n' e') = (e' < n' ∧ ts' i' = β e') := by
    intro i' hi'
    have := h6' i' hi'
    by_cases he' : e' < n'
    · have := hβ e' he'
      rw [t_sgP he', p_eq _ _ (by omega) (by omega)]
      simp [he']
    · rw [t_sgQ he', p_ofN1 _ (by omega)]
      simp [he']
  obtain ⟨z', b1', b2'⟩ := p_lp (fun s' => B_X12_spotOf_2 a' (t_sg β n' e') s'.1 s'.2) (fun i' s' => s' = (Int32.ofNat i', (I', X')) ∧ (if e' < n' then t_ixf ts' (β e') (m' - i') i' else none) = t_pa β n' ts' m' e')
    (fun z' => (∃ i', t_pa β n' ts' m' e' = some i' ∧ z' = .inl (Int32.ofNat i', (I', X'))) ∨ (t_pa β n' ts' m' e' = none ∧ z' = .inr (I', X'))) m' (by
      rintro i' s' hi' ⟨rfl, hr'⟩
      unfold B_X12_spotOf_2
      by_cases hlt' : i' < m'
      · have hc' := s_charAt hS' i' hlt'
        rw [show m' - i' = (m' - (i' + 1)) + 1 by omega, t_ixf] at hr'
        simp (disch := omega) only [p_ob h1', hl', p_bs, p_lt, hlt', ↓reduceIte, hc', hE' i' hlt', p_ar]
        by_cases he' : e' < n' ∧ ts' i' = β e'
        · right
          rw [if_pos he'.1, if_pos he'.2] at hr'
          simp only [he', and_self, ↓reduceIte]
          exact ⟨_, rfl, .inl ⟨i', hr'.symm, rfl⟩⟩
        · left
          simp only [he', ↓reduceIte]
          refine ⟨_, rfl, True.intro, rfl, ?_⟩
          by_cases h2' : e' < n'
          · rw [if_pos h2', if_neg (fun h' => he' ⟨h2', h'⟩)] at hr'
            rw [if_pos h2']; exact hr'
          · rw [if_neg h2'] at hr' ⊢; exact hr'
      · right
        have hi'' : i' = m' := by omega
        subst hi''
        rw [Nat.sub_self, t_ixf] at hr'
        simp (disch := omega) only [p_ob h1', hl', p_bs, p_lt, Nat.lt_irrefl, ↓reduceIte]
        exact ⟨_, rfl, .inr ⟨by rw [← hr']; split <;> rfl, rfl⟩⟩) m' 0 q_fu (0, (I', X')) (by omega) (by unfold q_fu; omega) ⟨rfl, rfl⟩
  unfold F_X12_spotOf
  simp only [b1', p_bs]
  rcases b2' with ⟨i', c1', rfl⟩ | ⟨c1', rfl⟩
  · rw [c1']; rfl
  · rw [c1']; rfl
theorem s_peekAmong (hB' : p_B X') {β : Nat → Nat} {n' e' : Nat} (hT' : t_TP β n' e' I') (hS' : t_SH a' ts' m' I' X') (ha' : a' ≠ 37) (ha'' : a' + 1 ≠ 37) : ∃ J', F_X9_peekAmong 37 a' (I', X') = some (t_nx (t_pa β n' ts' m' (t_sk β n' e')), (J', X')) ∧ t_PE I' (t_sk β n' e') J' := by
  obtain ⟨J', h1', h2', -⟩ := s_peek hB' hT'
  have hS'' : t_SH a' ts' m' J' X' := by
    obtain ⟨h1', h3', h4', h5', h6', h7'⟩ := hS'
    exact ⟨h1', h3', h4', by rw [h2'.1 a' ha']; exact h5', by rw [h2'.1 _ ha'']; exact h6', h7'⟩
  refine ⟨J', ?_, h2'⟩
  unfold F_X9_peekAmong t_pa
  simp (disch := omega) only [↓ce_37 hB', rf_37 hB', ↓nn_39, p_bs, p_rq0, p_rq1, p_rz0, p_rz1, p_us, p_un, p_uj, ↓reduceIte, h1', t_sgN hT']
  by_cases hlt' : t_sk β n' e' < n'
  · have h256 := hT'.2.2.2.2.2 _ hlt'
    rw [t_sgP hlt', t_c16 _ h256]
    simp only [hlt', not_true_eq_false, ↓reduceIte, p_ob hS''.1, s_indexOf hS'' _ h256, p_bs]
  · simp only [hlt', not_false_eq_true, ↓reduceIte]
    rfl
end PT'
