/-! the class's reader of LAWS -/
def t_LP (I' : p_I) (e' : Nat) (cs' : List Int32) (J' : p_I) : Prop := (∀ c', c' ≠ 37 → c' ≠ 49 → c' ≠ 50 → J' c' = I' c') ∧ (∀ j', j' ≠ 2 → j' ≠ 3 → J' 37 j' = I' 37 j') ∧ J' 37 2 = Int32.ofNat e' ∧ (∀ j', j' ≠ 2 → J' 49 j' = I' 49 j') ∧ J' 49 2 = Int32.ofNat cs'.length ∧ (∀ j', j' < cs'.length → J' 50 j' = cs'.getD j' 0)
def t_LX (I' : p_I) (e' : Nat) (J' : p_I) : Prop := (∀ c', c' ≠ 37 → c' ≠ 49 → c' ≠ 50 → J' c' = I' c') ∧ (∀ j', j' ≠ 2 → j' ≠ 3 → J' 37 j' = I' 37 j') ∧ J' 37 2 = Int32.ofNat e' ∧ (∀ j', j' ≠ 2 → J' 49 j' = I' 49 j')
theorem t_LPp {I' J' K' : p_I} {e' e'' : Nat} {cs' : List Int32} (h' : t_LP I' e' cs' J') (h2' : t_PE J' e'' K') : t_LP I' e'' cs' K' := ⟨fun c' h3' h4' h5' => by rw [h2'.1 c' h3', h'.1 c' h3' h4' h5'], fun j' h3' h4' => by rw [h2'.2.1 j' h3' h4', h'.2.1 j' h3' h4'], h2'.2.2, fun j' h3' => by rw [h2'.1 49 (by decide)]; exact h'.2.2.2.1 j' h3', by rw [h2'.1 49 (by decide)]; exact h'.2.2.2.2.1, by rw [h2'.1 50 (by decide)]; exact h'.2.2.2.2.2⟩
theorem t_LPx {I' J' : p_I} {e' : Nat} {cs' : List Int32} (h' : t_LP I' e' cs' J') : t_LX I' e' J' := ⟨h'.1, h'.2.1, h'.2.2.1, h'.2.2.2.1⟩
theorem t_TPl {β : Nat → Nat} {n' e' e'' : Nat} {I' J' : p_I} {cs' : List Int32} (hT' : t_TP β n' e' I') (h' : t_LP I' e'' cs' J') (he' : e'' ≤ n') : t_TP β n' e'' J' := by
  obtain ⟨a1', a2', a3', a4', a5', a6'⟩ := hT'
  exact ⟨by rw [h'.2.1 1 (by decide) (by decide)]; exact a1', h'.2.2.1, fun i' hi' => by rw [h'.1 38 (by decide) (by decide) (by decide)]; exact a3' i' hi', a4', he', a6'⟩
theorem t_SHl {a' m' : Nat} {ts' : Nat → Nat} {I' J' : p_I} {X' : p_X} {e' : Nat} {cs' : List Int32} (hS' : t_SH a' ts' m' I' X') (h' : t_LP I' e' cs' J') (ha' : a' < 34) : t_SH a' ts' m' J' X' := by
  obtain ⟨h1', h3', h4', h5', h6', h7'⟩ := hS'
  exact ⟨h1', h3', h4', by rw [h'.1 a' (by omega) (by omega) (by omega)]; exact h5', by rw [h'.1 _ (by omega) (by omega) (by omega)]; exact h6', h7'⟩
def t_CS (X' : p_X) (I' : p_I) (cs' : List Int32) (o' : Option (Int32 × q_Mem)) (r' : t_R) : Prop := match r' with
  | .inl x' => ∃ J'', o' = some (0, (J'', X')) ∧ t_LX I' x' J''
  | .inr (x', c', _) => ∃ J'', o' = some (1, (J'', X')) ∧ t_LP I' x' (cs' ++ c') J''
theorem t_sh18 {X' : p_X} {I' : p_I} (hB' : p_B X') (hS' : p_S I') : t_SH 18 t_lets 6 I' X' := t_SHof hS' 7 6 (by decide) (sh_18 hB') (rf_18 hB') (sh_19 hB') _ (by decide) (by decide) (by decide) (by decide)
theorem t_sh16 {X' : p_X} {I' : p_I} (hB' : p_B X') (hS' : p_S I') : t_SH 16 t_s1 2 I' X' := t_SHof hS' 6 2 (by decide) (sh_16 hB') (rf_16 hB') (sh_17 hB') _ (by decide) (by decide) (by decide) (by decide)
theorem t_sh14 {X' : p_X} {I' : p_I} (hB' : p_B X') (hS' : p_S I') : t_SH 14 t_s2 2 I' X' := t_SHof hS' 5 2 (by decide) (sh_14 hB') (rf_14 hB') (sh_15 hB') _ (by decide) (by decide) (by decide) (by decide)
theorem t_sh12 {X' : p_X} {I' : p_I} (hB' : p_B X') (hS' : p_S I') : t_SH 12 t_s3 3 I' X' := t_SHof hS' 4 3 (by decide) (sh_12 hB') (rf_12 hB') (sh_13 hB') _ (by decide) (by decide) (by decide) (by decide)
theorem t_sh10 {X' : p_X} {I' : p_I} (hB' : p_B X') (hS' : p_S I') : t_SH 10 t_s4 2 I' X' := t_SHof hS' 3 2 (by decide) (sh_10 hB') (rf_10 hB') (sh_11 hB') _ (by decide) (by decide) (by decide) (by decide)
theorem t_is1 {β : Nat → Nat} {n' e' y' : Nat} (h' : t_is β n' e' y' = true) : e' < n' := by
  rw [← t_isE] at h'
  exact h'.1
section PL'
variable {X' : p_X} {I' J' : p_I} {β : Nat → Nat} {n' e' e00' : Nat} {cs' : List Int32}
theorem s_write (hB' : p_B X') (h' : t_LP I' e' cs' J') (hl' : cs'.length < 240) (op' : Int32) : ∃ J'', F_X5_write 49 op' (J', X') = some ((), (J'', X')) ∧ t_LP I' e' (cs' ++ [op']) J'' := by
  obtain ⟨a1', a2', a3', a4', a5', a6'⟩ := h'
  unfold F_X5_write
  simp (disch := omega) only [↓ce_49 hB', rf_49 hB', ↓ce_50 hB', ↓nn_38, ↓nn_51, p_bs, p_rq0, p_rq1, p_rz0, p_rz1, p_us, p_un, p_uj, ↓reduceIte, a5', p_cm, hl', p_ar]
  refine ⟨_, rfl, ?_, ?_, ?_, ?_, ?_, ?_⟩
  · intro c' h3' h4' h5'; rw [p_uc _ _ _ _ _ h4', p_uc _ _ _ _ _ h5']; exact a1' c' h3' h4' h5'
  · intro j' h3' h4'; rw [p_uc _ _ _ _ _ (by decide), p_uc _ _ _ _ _ (by decide)]; exact a2' j' h3' h4'
  · rw [p_uc _ _ _ _ _ (by decide), p_uc _ _ _ _ _ (by decide)]; exact a3'
  · intro j' h3'; rw [p_uj _ _ _ _ _ h3', p_uc _ _ _ _ _ (by decide)]; exact a4' j' h3'
  · rw [p_us, List.length_append]; rfl
  · intro j' hj'
    rw [List.length_append] at hj'
    have hj' : j' < cs'.length + 1 := hj'
    rw [p_uc _ _ _ _ _ (by decide)]
    by_cases e' : j' = cs'.length
    · subst e'; rw [p_us, List.getD_eq_getElem?_getD, List.getElem?_append_right (Nat.le_refl _), Nat.sub_self]; rfl
    · rw [p_uj _ _ _ _ _ e', a6' j' (by omega), List.getD_eq_getElem?_getD, List.getD_eq_getElem?_getD, List.getElem?_append_left (by omega)]
theorem s_catom (hB' : p_B X') (hS' : p_S I') (hT' : t_TP β n' e00' I') {rec'' : Nat → Nat → Int32 → q_Mem → Option (Int32 × q_Mem)} {d' : Nat} {inner : Option (Nat → t_R)} (hd' : d' ≤ 6) (hin' : (d' = 6 ∧ inner = none) ∨ (d' < 6 ∧ ∃ S', inner = some S' ∧ (∀ e', e' ≤ n' → ∀ x' c' v', S' e' = .inr (x', c', v') → x' ≤ n') ∧ ∀ cs' e' J', t_LP I' e' cs' J' → e' ≤ n' → cs'.length ≤ e' → t_CS X' I' cs' (rec'' 1 49 (Int32.ofNat (d' + 1)) (J', X')) (S' e')))
    (hC' : t_LP I' e' cs' J') (he' : e' ≤ n') (hl' : cs'.length ≤ e') : t_CS X' I' cs' (F_X5_readAtom rec'' 49 (Int32.ofNat d') (J', X')) (t_atm β n' inner e') := by
  have hn' := hT'.2.2.2.1
  have hT1' := t_TPl hT' hC' he'
  obtain ⟨J1', b1', b2'⟩ := s_peekAmong hB' hT1' (t_SHl (t_sh18 hB' hS') hC' (by decide)) (by decide) (by decide)
  have hL' := t_skL β n' e'
  have hU' := t_skU β n' e' he'
  have c1' := t_LPp hC' b2'
  have h84' : ∀ J2', t_LP I' (t_sk β n' e') cs' J2' → t_CS X' I' cs' (J_X5_readAtom_84 rec'' 49 (J2', X')) (match t_nm β n' 4 0 9999 (t_sk β n' e') with | .inl x' => .inl x' | .inr (x', v') => .inr (x', [Int32.ofNat v'], fun _ => Int32.ofNat v')) := by
    intro J2' c2'
    have hNB' := t_nm4 (β := β) (n' := n') (t_sk β n' e') hU'
    unfold J_X5_readAtom_84
    rcases s_readNumber (d' := 4) (lo' := 0) (hi' := 9999) hB' (t_TPl hT' c2' hU') (by omega) (by omega) (by omega) (by omega) with ⟨x', J3', d1', d2', d3'⟩ | ⟨x', v', J3', d1', d2', d3', d4'⟩
    · have d2'' : F_X9_readNumber 37 4 0 9999 (J2', X') = some (0, (J3', X')) := d2'
      simp (disch := omega) only [↓ce_49 hB', rf_49 hB', ↓ce_37 hB', rf_37 hB', ↓nn_38, ↓nn_39, ↓nn_51, p_bs, p_rq0, p_rq1, p_rz0, p_rz1, p_us, p_un, p_uj, ↓reduceIte, d2'']
      rw [d1']
      exact ⟨J3', rfl, t_LPx (t_LPp c2' d3')⟩
    · have d2'' : F_X9_readNumber 37 4 0 9999 (J2', X') = some (1, (J3', X')) := d2'
      rw [d1'] at hNB'
      simp only at hNB'
      obtain ⟨J4', w1', w2'⟩ := s_write hB' (t_LPp c2' d3') (by omega) (Int32.ofNat v')
      simp (disch := omega) only [↓ce_49 hB', rf_49 hB', ↓ce_37 hB', rf_37 hB', ↓nn_38, ↓nn_39, ↓nn_51, p_bs, p_rq0, p_rq1, p_rz0, p_rz1, p_us, p_un, p_uj, ↓reduceIte, d2'', show ((1 : Int32) = 0) = False from by decide, d4', w1']
      rw [d1']
      exact ⟨J4', rfl, w2'⟩
  unfold F_X5_readAtom t_atm
  simp (disch := omega) only [↓ce_49 hB', rf_49 hB', ↓ce_37 hB', rf_37 hB', ↓nn_38, ↓nn_39, ↓nn_51, p_bs, p_rq0, p_rq1, p_rz0, p_rz1, p_us, p_un, p_uj, ↓reduceIte, b1']
  cases hpa' : t_pa β n' t_lets 6 (t_sk β n' e') with
  | some k' =>
    obtain ⟨p1', p2', p3'⟩ := t_paB hpa'
    have c2' := t_LPp hC' (t_PEu (e'' := t_sk β n' e' + 1) b2')
    obtain ⟨J4', w1', w2'⟩ := s_write hB' c2' (by omega) (-6 + Int32.ofNat k')
    simp (disch := omega) only [↓ce_49 hB', rf_49 hB', ↓ce_37 hB', rf_37 hB', ↓nn_38, ↓nn_39, ↓nn_51, p_bs, p_rq0, p_rq1, p_rz0, p_rz1, p_us, p_un, p_uj, ↓reduceIte, t_nxS, p_ofN1, b2'.2.2, p_ar, w1']
    exact ⟨J4', rfl, w2'⟩
  | none =>
    have hpc' : ∀ a' : Nat, a' ≤ 6 → (Int32.ofNat a' < 6) = (a' < 6) := fun a' ha' => p_lt a' 6 (by omega) (by decide)
    simp only [t_nx, ↓reduceIte, hpc' d' hd']
    rcases hin' with ⟨rfl, rfl⟩ | ⟨hd6', S', rfl, hSx', hrec⟩
    · simp only [Nat.lt_irrefl, ↓reduceIte, ite_self]
      exact h84' J1' c1'
    · obtain ⟨J2', t1', t2'⟩ := s_take hB' (t_TPl hT' c1' hU') 91 (by decide)
      rw [t_skk] at t1' t2'
      have t1'' : F_X9_take 37 91 (J1', X') = some (t_b (t_is β n' (t_sk β n' e') 91), (J2', X')) := t1'
      simp (disch := omega) only [↓ce_49 hB', rf_49 hB', ↓ce_37 hB', rf_37 hB', ↓nn_38, ↓nn_39, ↓nn_51, p_bs, p_rq0, p_rq1, p_rz0, p_rz1, p_us, p_un, p_uj, ↓reduceIte, hd6', t1'', t_b0]
      cases h91' : t_is β n' (t_sk β n' e') 91
      · rw [h91', if_neg (by decide)] at t2'
        simp only [↓reduceIte, Bool.false_eq_true]
        exact h84' J2' (t_LPp c1' t2')
      · have hlt' := t_is1 h91'
        rw [h91', if_pos rfl] at t2'
        have hr' := hrec cs' (t_sk β n' e' + 1) J2' (t_LPp c1' t2') (by omega) (by omega)
        simp only [Bool.true_eq_false, ↓reduceIte, p_ar]
        cases hs' : S' (t_sk β n' e' + 1) with
        | inl x' =>
          rw [hs'] at hr'
          obtain ⟨J3', r1', r2'⟩ := hr'
          simp (disch := omega) only [↓ce_49 hB', rf_49 hB', ↓ce_37 hB', rf_37 hB', ↓nn_38, ↓nn_39, ↓nn_51, p_bs, p_rq0, p_rq1, p_rz0, p_rz1, p_us, p_un, p_uj, ↓reduceIte, r1']
          exact ⟨J3', rfl, r2'⟩
        | inr z' =>
          obtain ⟨x', c', v'⟩ := z'
          rw [hs'] at hr'
          obtain ⟨J3', r1', r2'⟩ := hr'
          have hxn' := hSx' (t_sk β n' e' + 1) (by omega) x' c' v' hs'
          obtain ⟨J4', u1', u2'⟩ := s_take hB' (t_TPl hT' r2' hxn') 93 (by decide)
          have u1'' : F_X9_take 37 93 (J3', X') = some (t_b (t_is β n' (t_sk β n' x') 93), (J4', X')) := u1'
          simp (disch := omega) only [↓ce_49 hB', rf_49 hB', ↓ce_37 hB', rf_37 hB', ↓nn_38, ↓nn_39, ↓nn_51, p_bs, p_rq0, p_rq1, p_rz0, p_rz1, p_us, p_un, p_uj, ↓reduceIte, r1', show ((1 : Int32) = 0) = False from by decide, u1'', t_b0]
          cases h93' : t_is β n' (t_sk β n' x') 93
          · rw [h93', if_neg (by decide)] at u2'
            simp only [↓reduceIte, Bool.false_eq_true]
            exact ⟨J4', rfl, t_LPx (t_LPp r2' u2')⟩
          · rw [h93', if_pos rfl] at u2'
            simp only [Bool.true_eq_false, ↓reduceIte]
            exact ⟨J4', rfl, t_LPp r2' u2'⟩
theorem s_csum (hB' : p_B X') (hS' : p_S I') (hT' : t_TP β n' e00' I') {rec'' : Nat → Nat → Int32 → q_Mem → Option (Int32 × q_Mem)} {d' : Int32} {A' : Nat → t_R} {a' : Nat} (hg' : ∀ e', e' ≤ n' → t_GR n' a' e' 0 False (A' e')) (hA' : ∀ cs' e' J', t_LP I' e' cs' J' → e' ≤ n' → cs'.length ≤ e' → t_CS X' I' cs' (rec'' 2 49 d' (J', X')) (A' e'))
    (hC' : t_LP I' e' cs' J') (he' : e' ≤ n') (hl' : cs'.length ≤ e') : t_CS X' I' cs' (F_X5_readSum rec'' 49 d' (J', X')) (t_lpS β n' A' t_s2 2 (-7) e') := by
  have hn' := hT'.2.2.2.1
  have hr' := hA' cs' e' J' hC' he' hl'
  have hg0' := hg' e' he'
  unfold F_X5_readSum t_lpS
  cases hs' : A' e' with
  | inl x' =>
    rw [hs'] at hr'
    obtain ⟨J1', r1', r2'⟩ := hr'
    simp (disch := omega) only [↓ce_49 hB', rf_49 hB', ↓nn_38, ↓nn_51, p_bs, p_rq0, p_rq1, p_rz0, p_rz1, p_us, p_un, p_uj, ↓reduceIte, r1']
    exact ⟨J1', rfl, r2'⟩
  | inr z' =>
    obtain ⟨x0', c0', v0'⟩ := z'
    rw [hs'] at hr' hg0'
    obtain ⟨J1', r1', r2'⟩ := hr'
    obtain ⟨k1', k2', k3', k4', k5'⟩ := hg0'
    obtain ⟨z', h1', h2'⟩ := p_lp (fun z' => B_X5_readSum_12 rec'' 49 d' z'.1 z'.2)
      (fun i' z' => ∃ J' e1' c' v', z' = (Int32.ofNat i', (J', X')) ∧ t_LP I' e1' (cs' ++ c') J' ∧ e1' ≤ n' ∧ cs'.length + c'.length ≤ e1' ∧ t_lpA β n' A' t_s2 2 (-7) (240 - i') e1' c' v' = t_lpA β n' A' t_s2 2 (-7) 240 x0' c0' v0')
      (fun z' => (∃ x' J', t_lpA β n' A' t_s2 2 (-7) 240 x0' c0' v0' = .inl x' ∧ (z' = .inr (.inl (J', X')) ∨ z' = .inr (.inr (J', X'))) ∧ t_LX I' x' J') ∨ (∃ x' c' v' J', t_lpA β n' A' t_s2 2 (-7) 240 x0' c0' v0' = .inr (x', c', v') ∧ z' = .inl (J', X') ∧ t_LP I' x' (cs' ++ c') J')) 240 (by
        rintro i' z' hi' ⟨J', e1', c', v', rfl, j1', j2', j3', j4'⟩
        unfold B_X5_readSum_12
        by_cases hlt' : i' < 240
        · rw [show 240 - i' = (240 - (i' + 1)) + 1 by omega, t_lpA] at j4'
          obtain ⟨J2', b1', b2'⟩ := s_peekAmong hB' (t_TPl hT' j1' j2') (t_SHl (t_sh14 hB' hS') j1' (by decide)) (by decide) (by decide)
          have hL' := t_skL β n' e1'
          have hU' := t_skU β n' e1' j2'
          have c1' := t_LPp j1' b2'
          simp (disch := omega) only [↓ce_49 hB', rf_49 hB', ↓ce_37 hB', rf_37 hB', ↓nn_38, ↓nn_39, ↓nn_51, p_bs, p_rq0, p_rq1, p_rz0, p_rz1, p_us, p_un, p_uj, ↓reduceIte, p_cm, hlt', b1']
          cases hpa' : t_pa β n' t_s2 2 (t_sk β n' e1') with
          | none =>
            right
            rw [hpa'] at j4'
            simp only [t_nx, ↓reduceIte]
            exact ⟨_, rfl, .inr ⟨_, c', v', J2', j4'.symm, rfl, c1'⟩⟩
          | some w' =>
            rw [hpa'] at j4'
            simp only at j4'
            obtain ⟨p1', p2', p3'⟩ := t_paB hpa'
            have c2' := t_LPp j1' (t_PEu (e'' := t_sk β n' e1' + 1) b2')
            have hr2' := hA' (cs' ++ c') (t_sk β n' e1' + 1) _ c2' (by omega) (by rw [List.length_append]; omega)
            have hg2' := hg' (t_sk β n' e1' + 1) (by omega)
            simp (disch := omega) only [↓ce_49 hB', rf_49 hB', ↓ce_37 hB', rf_37 hB', ↓nn_38, ↓nn_39, ↓nn_51, p_bs, p_rq0, p_rq1, p_rz0, p_rz1, p_us, p_un, p_uj, ↓reduceIte, t_nxS, p_ofN1, b2'.2.2, p_ar]
            cases hs2' : A' (t_sk β n' e1' + 1) with
            | inl x' =>
              right
              rw [hs2'] at j4' hr2'
              obtain ⟨J3', q1', q2'⟩ := hr2'
              simp (disch := omega) only [↓ce_49 hB', rf_49 hB', ↓nn_38, ↓nn_51, p_bs, p_rq0, p_rq1, p_rz0, p_rz1, p_us, p_un, p_uj, ↓reduceIte, q1']
              exact ⟨_, rfl, .inl ⟨x', J3', j4'.symm, .inl rfl, q2'⟩⟩
            | inr z2' =>
              left
              obtain ⟨x', cc', vv'⟩ := z2'
              rw [hs2'] at j4' hr2' hg2'
              obtain ⟨J3', q1', q2'⟩ := hr2'
              obtain ⟨m1', m2', m3', m4', m5'⟩ := hg2'
              obtain ⟨J4', w1', w2'⟩ := s_write hB' q2' (by rw [List.length_append, List.length_append]; omega) (-7 - Int32.ofNat w')
              simp (disch := omega) only [↓ce_49 hB', rf_49 hB', ↓nn_38, ↓nn_51, p_bs, p_rq0, p_rq1, p_rz0, p_rz1, p_us, p_un, p_uj, ↓reduceIte, q1', show ((1 : Int32) = 0) = False from by decide, w1', p_ar]
              refine ⟨_, rfl, True.intro, J4', x', _, _, rfl, ?_, m2', ?_, j4'⟩
              · rw [List.append_assoc, List.append_assoc] at w2'
                rw [List.append_assoc]
                exact w2'
              · rw [List.length_append, List.length_append]
                show cs'.length + (c'.length + cc'.length + 1) ≤ x'
                omega
        · right
          have hi'' : i' = 240 := by omega
          subst hi''
          rw [Nat.sub_self, t_lpA] at j4'
          simp (disch := omega) only [p_bs, p_rq0, p_rq1, p_rz0, p_rz1, p_us, p_un, p_uj, ↓reduceIte, p_cm, Nat.lt_irrefl]
          exact ⟨_, rfl, .inl ⟨e1', J', j4'.symm, .inr rfl, t_LPx j1'⟩⟩) 240 0 q_fu (0, (J1', X')) (by omega) (by unfold q_fu; omega) ⟨J1', x0', c0', v0', rfl, r2', k2', by omega, rfl⟩
    simp (disch := omega) only [↓ce_49 hB', rf_49 hB', ↓nn_38, ↓nn_51, p_bs, p_rq0, p_rq1, p_rz0, p_rz1, p_us, p_un, p_uj, ↓reduceIte, r1', show ((1 : Int32) = 0) = False from by decide, h1']
    rcases h2' with ⟨x', J2', q1', q2', q3'⟩ | ⟨x', c', v', J2', q1', rfl, q3'⟩
    · rw [q1']
      rcases q2' with rfl | rfl
      · exact ⟨J2', rfl, q3'⟩
      · exact ⟨J2', rfl, q3'⟩
    · rw [q1']
      exact ⟨J2', rfl, q3'⟩
theorem s_cterm (hB' : p_B X') (hS' : p_S I') (hT' : t_TP β n' e00' I') {rec'' : Nat → Nat → Int32 → q_Mem → Option (Int32 × q_Mem)} {d' : Int32} {A' : Nat → t_R} {a' : Nat} (hg' : ∀ e', e' ≤ n' → t_GR n' a' e' 0 False (A' e')) (hA' : ∀ cs' e' J', t_LP I' e' cs' J' → e' ≤ n' → cs'.length ≤ e' → t_CS X' I' cs' (rec'' 0 49 d' (J', X')) (A' e'))
    (hC' : t_LP I' e' cs' J') (he' : e' ≤ n') (hl' : cs'.length ≤ e') : t_CS X' I' cs' (F_X5_readTerm rec'' 49 d' (J', X')) (t_lpS β n' A' t_s1 2 (-9) e') := by
  have hn' := hT'.2.2.2.1
  have hr' := hA' cs' e' J' hC' he' hl'
  have hg0' := hg' e' he'
  unfold F_X5_readTerm t_lpS
  cases hs' : A' e' with
  | inl x' =>
    rw [hs'] at hr'
    obtain ⟨J1', r1', r2'⟩ := hr'
    simp (disch := omega) only [↓ce_49 hB', rf_49 hB', ↓nn_38, ↓nn_51, p_bs, p_rq0, p_rq1, p_rz0, p_rz1, p_us, p_un, p_uj, ↓reduceIte, r1']
    exact ⟨J1', rfl, r2'⟩
  | inr z' =>
    obtain ⟨x0', c0', v0'⟩ := z'
    rw [hs'] at hr' hg0'
    obtain ⟨J1', r1', r2'⟩ := hr'
    obtain ⟨k1', k2', k3', k4', k5'⟩ := hg0'
    obtain ⟨z', h1', h2'⟩ := p_lp (fun z' => B_X5_readTerm_12 rec'' 49 d' z'.1 z'.2)
      (fun i' z' => ∃ J' e1' c' v', z' = (Int32.ofNat i', (J', X')) ∧ t_LP I' e1' (cs' ++ c') J' ∧ e1' ≤ n' ∧ cs'.length + c'.length ≤ e1' ∧ t_lpA β n' A' t_s1 2 (-9) (240 - i') e1' c' v' = t_lpA β n' A' t_s1 2 (-9) 240 x0' c0' v0')
      (fun z' => (∃ x' J', t_lpA β n' A' t_s1 2 (-9) 240 x0' c0' v0' = .inl x' ∧ (z' = .inr (.inl (J', X')) ∨ z' = .inr (.inr (J', X'))) ∧ t_LX I' x' J') ∨ (∃ x' c' v' J', t_lpA β n' A' t_s1 2 (-9) 240 x0' c0' v0' = .inr (x', c', v') ∧ z' = .inl (J', X') ∧ t_LP I' x' (cs' ++ c') J')) 240 (by
        rintro i' z' hi' ⟨J', e1', c', v', rfl, j1', j2', j3', j4'⟩
        unfold B_X5_readTerm_12
        by_cases hlt' : i' < 240
        · rw [show 240 - i' = (240 - (i' + 1)) + 1 by omega, t_lpA] at j4'
          obtain ⟨J2', b1', b2'⟩ := s_peekAmong hB' (t_TPl hT' j1' j2') (t_SHl (t_sh16 hB' hS') j1' (by decide)) (by decide) (by decide)
          have hL' := t_skL β n' e1'
          have hU' := t_skU β n' e1' j2'
          have c1' := t_LPp j1' b2'
          simp (disch := omega) only [↓ce_49 hB', rf_49 hB', ↓ce_37 hB', rf_37 hB', ↓nn_38, ↓nn_39, ↓nn_51, p_bs, p_rq0, p_rq1, p_rz0, p_rz1, p_us, p_un, p_uj, ↓reduceIte, p_cm, hlt', b1']
          cases hpa' : t_pa β n' t_s1 2 (t_sk β n' e1') with
          | none =>
            right
            rw [hpa'] at j4'
            simp only [t_nx, ↓reduceIte]
            exact ⟨_, rfl, .inr ⟨_, c', v', J2', j4'.symm, rfl, c1'⟩⟩
          | some w' =>
            rw [hpa'] at j4'
            simp only at j4'
            obtain ⟨p1', p2', p3'⟩ := t_paB hpa'
            have c2' := t_LPp j1' (t_PEu (e'' := t_sk β n' e1' + 1) b2')
            have hr2' := hA' (cs' ++ c') (t_sk β n' e1' + 1) _ c2' (by omega) (by rw [List.length_append]; omega)
            have hg2' := hg' (t_sk β n' e1' + 1) (by omega)
            simp (disch := omega) only [↓ce_49 hB', rf_49 hB', ↓ce_37 hB', rf_37 hB', ↓nn_38, ↓nn_39, ↓nn_51, p_bs, p_rq0, p_rq1, p_rz0, p_rz1, p_us, p_un, p_uj, ↓reduceIte, t_nxS, p_ofN1, b2'.2.2, p_ar]
            cases hs2' : A' (t_sk β n' e1' + 1) with
            | inl x' =>
              right
              rw [hs2'] at j4' hr2'
              obtain ⟨J3', q1', q2'⟩ := hr2'
              simp (disch := omega) only [↓ce_49 hB', rf_49 hB', ↓nn_38, ↓nn_51, p_bs, p_rq0, p_rq1, p_rz0, p_rz1, p_us, p_un, p_uj, ↓reduceIte, q1']
              exact ⟨_, rfl, .inl ⟨x', J3', j4'.symm, .inl rfl, q2'⟩⟩
            | inr z2' =>
              left
              obtain ⟨x', cc', vv'⟩ := z2'
              rw [hs2'] at j4' hr2' hg2'
              obtain ⟨J3', q1', q2'⟩ := hr2'
              obtain ⟨m1', m2', m3', m4', m5'⟩ := hg2'
              obtain ⟨J4', w1', w2'⟩ := s_write hB' q2' (by rw [List.length_append, List.length_append]; omega) (-9 - Int32.ofNat w')
              simp (disch := omega) only [↓ce_49 hB', rf_49 hB', ↓nn_38, ↓nn_51, p_bs, p_rq0, p_rq1, p_rz0, p_rz1, p_us, p_un, p_uj, ↓reduceIte, q1', show ((1 : Int32) = 0) = False from by decide, w1', p_ar]
              refine ⟨_, rfl, True.intro, J4', x', _, _, rfl, ?_, m2', ?_, j4'⟩
              · rw [List.append_assoc, List.append_assoc] at w2'
                rw [List.append_assoc]
                exact w2'
              · rw [List.length_append, List.length_append]
                show cs'.length + (c'.length + cc'.length + 1) ≤ x'
                omega
        · right
          have hi'' : i' = 240 := by omega
          subst hi''
          rw [Nat.sub_self, t_lpA] at j4'
          simp (disch := omega) only [p_bs, p_rq0, p_rq1, p_rz0, p_rz1, p_us, p_un, p_uj, ↓reduceIte, p_cm, Nat.lt_irrefl]
          exact ⟨_, rfl, .inl ⟨e1', J', j4'.symm, .inr rfl, t_LPx j1'⟩⟩) 240 0 q_fu (0, (J1', X')) (by omega) (by unfold q_fu; omega) ⟨J1', x0', c0', v0', rfl, r2', k2', by omega, rfl⟩
    simp (disch := omega) only [↓ce_49 hB', rf_49 hB', ↓nn_38, ↓nn_51, p_bs, p_rq0, p_rq1, p_rz0, p_rz1, p_us, p_un, p_uj, ↓reduceIte, r1', show ((1 : Int32) = 0) = False from by decide, h1']
    rcases h2' with ⟨x', J2', q1', q2', q3'⟩ | ⟨x', c', v', J2', q1', rfl, q3'⟩
    · rw [q1']
      rcases q2' with rfl | rfl
      · exact ⟨J2', rfl, q3'⟩
      · exact ⟨J2', rfl, q3'⟩
    · rw [q1']
      exact ⟨J2', rfl, q3'⟩
theorem t_GRx {S' : Nat → t_R} {a' : Nat} (hg' : ∀ e', e' ≤ n' → t_GR n' a' e' 0 False (S' e')) (e' : Nat) (he' : e' ≤ n') (x' : Nat) (c' : List Int32) (v' : t_V) (h' : S' e' = .inr (x', c', v')) : x' ≤ n' := by
  have := hg' e' he'
  rw [h'] at this
  exact this.2.1
theorem s_cRsum (hB' : p_B X') (hS' : p_S I') (hT' : t_TP β n' e00' I') (k' : Nat) (hk' : k' ≤ 6) (f' : Nat) (hf' : 3 * (k' + 1) ≤ f') : ∀ cs' e' J', t_LP I' e' cs' J' → e' ≤ n' → cs'.length ≤ e' → t_CS X' I' cs' (R_X5_readAtom f' 1 49 (Int32.ofNat (6 - k')) (J', X')) (t_sum β n' k' e') := by
  induction k' generalizing f' with
  | zero =>
    obtain ⟨f', rfl⟩ : ∃ g', f' = g' + 1 + 1 + 1 := ⟨f' - 3, by omega⟩
    intro cs' e' J' hC' he' hl'
    refine s_csum (a' := 2) (A' := t_trm β n' none) hB' hS' hT' ?_ ?_ hC' he' hl'
    · intro e' he'
      exact t_GRlpS (a' := 1) (fun e' he' => t_GRatm (by omega) (fun S' h' => by cases h') e' he') (fun w' hw' => by
        have : w' = 0 ∨ w' = 1 := by omega
        rcases this with rfl | rfl
        · exact .inr (.inr (.inl (by decide)))
        · exact .inr (.inr (.inr (by decide)))) e' he'
    · intro cs' e' J' hC' he' hl'
      refine s_cterm (a' := 1) (A' := t_atm β n' none) hB' hS' hT' ?_ ?_ hC' he' hl'
      · exact fun e' he' => t_GRatm (by omega) (fun S' h' => by cases h') e' he'
      · intro cs' e' J' hC' he' hl'
        exact s_catom hB' hS' hT' (d' := 6) (by omega) (.inl ⟨rfl, rfl⟩) hC' he' hl'
  | succ k' ih' =>
    obtain ⟨f', rfl⟩ : ∃ g', f' = g' + 1 + 1 + 1 := ⟨f' - 3, by omega⟩
    have hin' : ∀ S', (some (t_sum β n' k')) = some S' → ∀ e', e' ≤ n' → t_GR n' (2 * k' + 3) e' 0 False (S' e') := fun S' h' e' he' => by cases h'; exact t_GRsum k' e' he'
    intro cs' e' J' hC' he' hl'
    refine s_csum (a' := 2 * k' + 3 + 1) (A' := t_trm β n' (some (t_sum β n' k'))) hB' hS' hT' ?_ ?_ hC' he' hl'
    · intro e' he'
      exact t_GRlpS (a' := 2 * k' + 3) (fun e' he' => t_GRatm (by omega) hin' e' he') (fun w' hw' => by
        have : w' = 0 ∨ w' = 1 := by omega
        rcases this with rfl | rfl
        · exact .inr (.inr (.inl (by decide)))
        · exact .inr (.inr (.inr (by decide)))) e' he'
    · intro cs' e' J' hC' he' hl'
      refine s_cterm (a' := 2 * k' + 3) (A' := t_atm β n' (some (t_sum β n' k'))) hB' hS' hT' ?_ ?_ hC' he' hl'
      · exact fun e' he' => t_GRatm (by omega) hin' e' he'
      · intro cs' e' J' hC' he' hl'
        refine s_catom hB' hS' hT' (d' := 6 - (k' + 1)) (by omega) (.inr ⟨by omega, t_sum β n' k', rfl, fun e' he' x' c' v' h' => t_GRx (fun e' he' => t_GRsum k' e' he') e' he' x' c' v' h', ?_⟩) hC' he' hl'
        intro cs' e' J' hC' he' hl'
        have := ih' (by omega) f' (by omega) cs' e' J' hC' he' hl'
        rw [show 6 - (k' + 1) + 1 = 6 - k' by omega]
        exact this
end PL'
