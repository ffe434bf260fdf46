/-! THE TAPE, both sides -/
def t_by (x' : Nat) : Int32 := (Int32.ofNat x').toInt8.toInt32
def t_dig (x' : Nat) : Bool := decide (48 ≤ x') && decide (x' ≤ 57)
theorem t_by255 (x' : Nat) (h' : x' < 256) : t_by x' &&& 255 = Int32.ofNat x' := by
  have hh' : ∀ x' : Fin 256, t_by x' &&& 255 = Int32.ofNat x' := by decide +kernel
  exact hh' ⟨x', h'⟩
theorem t_by32 (x' : Nat) (h' : x' < 256) : (t_by x' = 32) = (x' = 32) := by
  have hh' : ∀ x' : Fin 256, decide (t_by x' = 32) = decide ((x' : Nat) = 32) := by decide +kernel
  have := hh' ⟨x', h'⟩
  simpa using this
theorem t_byd (x' : Nat) (h' : x' < 256) (M' : q_Mem) : (if t_by x' < 48 then q_rq (0 : Int32) else if (57 : Int32) < t_by x' then q_rq (0 : Int32) else q_rq (1 : Int32)) = some (t_b (t_dig x')) := by
  have hh' : ∀ x' : Fin 256, (if t_by x' < 48 then q_rq (0 : Int32) else if (57 : Int32) < t_by x' then q_rq (0 : Int32) else q_rq (1 : Int32)) = some (t_b (t_dig x')) := by decide +kernel
  exact hh' ⟨x', h'⟩
theorem t_byE (x' y' : Nat) (h' : x' < 256) (hy' : y' < 128) : (Int32.ofNat y' = t_by x') = (y' = x') := by
  have hh' : ∀ (x' : Fin 256), (t_by x').toInt = if (x' : Nat) < 128 then ((x' : Nat) : Int) else ((x' : Nat) : Int) - 256 := by decide +kernel
  have h1' := hh' ⟨x', h'⟩
  refine propext ⟨fun e' => ?_, fun e' => ?_⟩
  · have h2' := congrArg Int32.toInt e'
    rw [p_toI y' (by omega), h1'] at h2'
    simp only at h2'
    split at h2' <;> omega
  · subst e'
    apply Int32.toInt_inj.mp
    rw [h1', p_toI y' (by omega), if_pos hy']
theorem t_c16 (x' : Nat) (h' : x' < 256) : ((Int32.ofNat x').toUInt32 % 65536).toInt32 = Int32.ofNat x' := by
  have hh' : ∀ x' : Fin 256, ((Int32.ofNat x').toUInt32 % 65536).toInt32 = Int32.ofNat x' := by decide +kernel
  exact hh' ⟨x', h'⟩
/-- where the next sign is, blanks passed over -/
def t_skf (β : Nat → Nat) (n' : Nat) : Nat → Nat → Nat
  | 0, e' => e'
  | f' + 1, e' => if e' < n' ∧ β e' = 32 then t_skf β n' f' (e' + 1) else e'
def t_sk (β : Nat → Nat) (n' e' : Nat) : Nat := t_skf β n' (n' - e') e'
def t_sg (β : Nat → Nat) (n' e' : Nat) : Int32 := if e' < n' then Int32.ofNat (β e') else -1
theorem t_skS (β : Nat → Nat) (n' e' : Nat) (h' : e' < n') (h2' : β e' = 32) : t_sk β n' e' = t_sk β n' (e' + 1) := by
  unfold t_sk
  rw [show n' - e' = (n' - (e' + 1)) + 1 by omega, t_skf, if_pos ⟨h', h2'⟩]
theorem t_skN (β : Nat → Nat) (n' e' : Nat) (h' : ¬ (e' < n' ∧ β e' = 32)) : t_sk β n' e' = e' := by
  unfold t_sk
  cases n' - e' with
  | zero => rfl
  | succ f' => rw [t_skf, if_neg h']
theorem t_skB (β : Nat → Nat) (n' : Nat) : ∀ (f' e' : Nat), n' - e' = f' → e' ≤ t_sk β n' e' ∧ (e' ≤ n' → t_sk β n' e' ≤ n') ∧ ¬ (t_sk β n' e' < n' ∧ β (t_sk β n' e') = 32) := by
  intro f'
  induction f' with
  | zero => intro e' h'; rw [t_skN β n' e' (by omega)]; exact ⟨Nat.le_refl _, id, by omega⟩
  | succ f' ih' =>
    intro e' h'
    by_cases hc' : e' < n' ∧ β e' = 32
    · rw [t_skS β n' e' hc'.1 hc'.2]
      obtain ⟨a', b', c'⟩ := ih' (e' + 1) (by omega)
      exact ⟨by omega, fun _ => b' (by omega), c'⟩
    · rw [t_skN β n' e' hc']; exact ⟨Nat.le_refl _, id, hc'⟩
theorem t_skL (β : Nat → Nat) (n' e' : Nat) : e' ≤ t_sk β n' e' := (t_skB β n' _ e' rfl).1
theorem t_skU (β : Nat → Nat) (n' e' : Nat) (h' : e' ≤ n') : t_sk β n' e' ≤ n' := (t_skB β n' _ e' rfl).2.1 h'
theorem t_skk (β : Nat → Nat) (n' e' : Nat) : t_sk β n' (t_sk β n' e') = t_sk β n' e' := t_skN β n' _ (t_skB β n' _ e' rfl).2.2
/-- the class's tape: bytes β, n of them, the eye at e -/
def t_TP (β : Nat → Nat) (n' e' : Nat) (I' : p_I) : Prop := I' 37 1 = Int32.ofNat n' ∧ I' 37 2 = Int32.ofNat e' ∧ (∀ i', i' < n' → I' 38 i' = t_by (β i')) ∧ n' ≤ 240 ∧ e' ≤ n' ∧ ∀ i', i' < n' → β i' < 256
/-- only the eye has moved (and the number read last) -/
def t_PE (I' : p_I) (e' : Nat) (J' : p_I) : Prop := (∀ c', c' ≠ 37 → J' c' = I' c') ∧ (∀ j', j' ≠ 2 → j' ≠ 3 → J' 37 j' = I' 37 j') ∧ J' 37 2 = Int32.ofNat e'
theorem t_PEt {I' J' K' : p_I} {e' e'' : Nat} (h' : t_PE I' e' J') (h2' : t_PE J' e'' K') : t_PE I' e'' K' := ⟨fun c' hc' => by rw [h2'.1 c' hc', h'.1 c' hc'], fun j' h3' h4' => by rw [h2'.2.1 j' h3' h4', h'.2.1 j' h3' h4'], h2'.2.2⟩
theorem t_TPk {β : Nat → Nat} {n' e' e'' : Nat} {I' J' : p_I} (hT' : t_TP β n' e' I') (h' : t_PE I' e'' J') (he' : e'' ≤ n') : t_TP β n' e'' J' := by
  obtain ⟨a1', a2', a3', a4', a5', a6'⟩ := hT'
  exact ⟨by rw [h'.2.1 1 (by decide) (by decide)]; exact a1', h'.2.2, fun i' hi' => by rw [h'.1 38 (by decide)]; exact a3' i' hi', a4', he', a6'⟩
theorem t_PEs {I' : p_I} {e' : Nat} (h' : I' 37 2 = Int32.ofNat e') : t_PE I' e' I' := ⟨fun _ _ => rfl, fun _ _ _ => rfl, h'⟩
theorem t_PEu {I' J' : p_I} {e' e'' : Nat} (h' : t_PE I' e' J') : t_PE I' e'' (q_u2 J' 37 2 (Int32.ofNat e'')) := ⟨fun c' hc' => by rw [p_uc _ _ _ _ _ hc']; exact h'.1 c' hc', fun j' h3' h4' => by rw [p_uj _ _ _ _ _ h3']; exact h'.2.1 j' h3' h4', p_us _ _ _ _⟩
section PT'
variable {X' : p_X} {I' : p_I} {β : Nat → Nat} {n' e' : Nat}
theorem s_peek (hB' : p_B X') (hT' : t_TP β n' e' I') : ∃ J', F_X9_peek 37 (I', X') = some (t_sg β n' (t_sk β n' e'), (J', X')) ∧ t_PE I' (t_sk β n' e') J' ∧ J' 37 3 = I' 37 3 := by
  obtain ⟨a1', a2', a3', a4', a5', a6'⟩ := hT'
  obtain ⟨z', h1', J', rfl, h2', h3'⟩ := p_lp (fun z' => B_X9_peek_5 37 z'.1 z'.2) (fun i' z' => ∃ J', z' = (Int32.ofNat (e' + i'), (J', X')) ∧ t_PE I' (e' + i') J' ∧ J' 37 3 = I' 37 3 ∧ t_sk β n' (e' + i') = t_sk β n' e' ∧ e' + i' ≤ n')
    (fun z' => ∃ J', z' = (J', X') ∧ t_PE I' (t_sk β n' e') J' ∧ J' 37 3 = I' 37 3) (n' - e') (by
      rintro i' z' hi' ⟨J', rfl, j1', j0', j2', j3'⟩
      have l1' : J' 37 1 = Int32.ofNat n' := by rw [j1'.2.1 1 (by decide) (by decide)]; exact a1'
      have l2' : J' 37 2 = Int32.ofNat (e' + i') := j1'.2.2
      unfold B_X9_peek_5
      by_cases hlt' : e' + i' < n'
      · have l3' : J' 38 (e' + i') = t_by (β (e' + i')) := by rw [j1'.1 38 (by decide)]; exact a3' _ hlt'
        simp (disch := omega) only [↓ce_37 hB', rf_37 hB', ↓ce_38 hB', ↓nn_39, p_bs, p_rq0, p_rq1, p_rz0, p_rz1, p_us, p_un, p_uj, ↓reduceIte, l1', l2', p_lt, hlt', l3', t_by32 _ (a6' _ hlt'), p_ar]
        by_cases h32' : β (e' + i') = 32
        · left
          simp only [h32', ↓reduceIte]
          refine ⟨_, rfl, by omega, _, rfl, t_PEu j1', ?_, ?_, by omega⟩
          · rw [p_uj _ _ _ _ _ (by decide)]; exact j0'
          · rw [← j2', t_skS β n' _ hlt' h32']; rfl
        · right
          simp only [h32', ↓reduceIte]
          refine ⟨_, rfl, J', rfl, ?_, j0'⟩
          rw [← j2', t_skN β n' _ (fun h' => h32' h'.2)]
          exact j1'
      · right
        simp (disch := omega) only [↓ce_37 hB', rf_37 hB', ↓nn_39, p_bs, p_rq0, p_rq1, p_rz0, p_rz1, p_us, p_un, p_uj, ↓reduceIte, l1', p_lt, hlt']
        refine ⟨_, rfl, J', rfl, ?_, j0'⟩
        rw [← j2', t_skN β n' _ (fun h' => hlt' h'.1)]
        exact j1') (n' - e') 0 q_fu (Int32.ofNat e', (I', X')) (by omega) (by unfold q_fu; omega) ⟨I', rfl, t_PEs a2', rfl, rfl, by omega⟩
  have l1' : J' 37 1 = Int32.ofNat n' := by rw [h2'.2.1 1 (by decide) (by decide)]; exact a1'
  have hU' := t_skU β n' e' a5'
  unfold F_X9_peek
  simp (disch := omega) only [↓ce_37 hB', rf_37 hB', ↓nn_39, p_bs, p_rq0, p_rq1, p_rz0, p_rz1, p_us, p_un, p_uj, ↓reduceIte, a2', h1']
  simp (disch := omega) only [↓ce_37 hB', rf_37 hB', ↓nn_39, p_bs, p_rq0, p_rq1, p_rz0, p_rz1, p_us, p_un, p_uj, ↓reduceIte, l1', h2'.2.2, p_lt]
  unfold t_sg
  by_cases hlt' : t_sk β n' e' < n'
  · have l3' : J' 38 (t_sk β n' e') = t_by (β (t_sk β n' e')) := by rw [h2'.1 38 (by decide)]; exact a3' _ hlt'
    simp (disch := omega) only [↓ce_37 hB', rf_37 hB', ↓ce_38 hB', ↓nn_39, p_bs, p_rq0, p_rq1, p_rz0, p_rz1, p_us, p_un, p_uj, ↓reduceIte, hlt', h2'.2.2, l3', t_by255 _ (a6' _ hlt')]
    exact ⟨J', rfl, h2', h3'⟩
  · simp only [hlt', ↓reduceIte]
    exact ⟨J', rfl, h2', h3'⟩
theorem t_sgE (hT' : t_TP β n' e' I') (e1' y' : Nat) (hy' : y' < 256) : (t_sg β n' e1' = Int32.ofNat y') = (e1' < n' ∧ β e1' = y') := by
  unfold t_sg
  refine propext ⟨fun h' => ?_, fun h' => by rw [if_pos h'.1, h'.2]⟩
  by_cases hlt' : e1' < n'
  · rw [if_pos hlt', p_eq _ _ (Nat.lt_trans (hT'.2.2.2.2.2 _ hlt') (by omega)) (by omega)] at h'
    exact ⟨hlt', h'⟩
  · rw [if_neg hlt'] at h'
    have := p_ofN1 y' (by omega)
    rw [← h'] at this
    exact absurd rfl (fun z' => this ▸ z')
theorem t_sgN (hT' : t_TP β n' e' I') (e1' : Nat) : (t_sg β n' e1' = -1) = ¬ e1' < n' := by
  unfold t_sg
  by_cases hlt' : e1' < n'
  · rw [if_pos hlt', p_ofN1 _ (Nat.lt_trans (hT'.2.2.2.2.2 _ hlt') (by omega))]
    simp [hlt']
  · simp [hlt']
/-- is there this sign -/
def t_is (β : Nat → Nat) (n' e' y' : Nat) : Bool := decide (e' < n') && decide (β e' = y')
theorem s_take (hB' : p_B X') (hT' : t_TP β n' e' I') (y' : Nat) (hy' : y' < 256) : ∃ J', F_X9_take 37 (Int32.ofNat y') (I', X') = some (t_b (t_is β n' (t_sk β n' e') y'), (J', X')) ∧ t_PE I' (if t_is β n' (t_sk β n' e') y' = true then t_sk β n' e' + 1 else t_sk β n' e') J' := by
  obtain ⟨J', h1', h2', -⟩ := s_peek hB' hT'
  unfold F_X9_take
  simp (disch := omega) only [↓ce_37 hB', rf_37 hB', ↓nn_39, p_bs, p_rq0, p_rq1, p_rz0, p_rz1, p_us, p_un, p_uj, ↓reduceIte, h1', t_sgE hT' _ y' hy', h2'.2.2, p_ar]
  unfold t_is
  by_cases hc' : t_sk β n' e' < n' ∧ β (t_sk β n' e') = y'
  · simp only [hc'.1, hc'.2, and_self, ↓reduceIte, decide_true, Bool.and_self]
    exact ⟨_, rfl, t_PEu h2'⟩
  · have : (decide (t_sk β n' e' < n') && decide (β (t_sk β n' e') = y')) = false := by
      rw [Bool.eq_false_iff]; intro h'; rw [Bool.and_eq_true, decide_eq_true_eq, decide_eq_true_eq] at h'; exact hc' h'
    simp only [hc', this, Bool.false_eq_true, ↓reduceIte]
    exact ⟨J', rfl, h2'⟩
/-- is there a digit -/
def t_dg (β : Nat → Nat) (n' e' : Nat) : Bool := decide (e' < n') && t_dig (β e')
theorem s_isDigit (hT' : t_TP β n' e' I') (e1' : Nat) (M' : q_Mem) : F_X9_isDigit (t_sg β n' e1') M' = some (t_b (t_dg β n' e1')) := by
  unfold F_X9_isDigit t_sg t_dg t_dig
  by_cases hlt' : e1' < n'
  · have h256 := hT'.2.2.2.2.2 _ hlt'
    simp only [hlt', ↓reduceIte, decide_true, Bool.true_and]
    rw [show (48 : Int32) = Int32.ofNat 48 from rfl, show (57 : Int32) = Int32.ofNat 57 from rfl]
    simp (disch := omega) only [p_lt]
    by_cases h1' : β e1' < 48
    · have : ¬ 48 ≤ β e1' := by omega
      simp only [h1', ↓reduceIte, this, decide_false, Bool.false_and]; rfl
    · have h1'' : 48 ≤ β e1' := by omega
      by_cases h2' : 57 < β e1'
      · have : ¬ β e1' ≤ 57 := by omega
        simp only [h1', h2', ↓reduceIte, this, decide_false, Bool.and_false]; rfl
      · have : β e1' ≤ 57 := by omega
        simp only [h1', h2', ↓reduceIte, this, h1'', decide_true, Bool.and_self]; rfl
  · simp only [hlt', ↓reduceIte, decide_false, Bool.false_and]
    rfl
/-- digits, at most d of them: where it goes wrong, or where it ends and the number -/
def t_dgs (β : Nat → Nat) (n' : Nat) : Nat → Nat → Nat → Nat ⊕ (Nat × Nat)
  | 0, e', _ => .inl e'
  | d' + 1, e', v' => if t_dg β n' (e' + 1) = true then t_dgs β n' d' (e' + 1) (10 * v' + (β e' - 48)) else .inr (e' + 1, 10 * v' + (β e' - 48))
def t_nm (β : Nat → Nat) (n' d' lo' hi' e' : Nat) : Nat ⊕ (Nat × Nat) :=
  if t_dg β n' (t_sk β n' e') = true then (match t_dgs β n' d' (t_sk β n' e') 0 with
    | .inl x' => .inl x'
    | .inr (x', v') => if lo' ≤ v' ∧ v' ≤ hi' then .inr (x', v') else .inl (x' - 1)) else .inl (t_sk β n' e')
theorem t_dgE {e1' : Nat} (h' : t_dg β n' e1' = true) : e1' < n' ∧ 48 ≤ β e1' ∧ β e1' ≤ 57 := by
  unfold t_dg t_dig at h'
  simpa using h'
theorem t_dgsB (d' e1' v' : Nat) (h' : e1' < n') : (∀ x', t_dgs β n' d' e1' v' = .inl x' → x' < n' ∧ e1' ≤ x') ∧ (∀ x' w', t_dgs β n' d' e1' v' = .inr (x', w') → x' ≤ n' ∧ e1' < x') := by
  induction d' generalizing e1' v' with
  | zero => exact ⟨(fun x' hx' => by cases hx'; exact ⟨h', Nat.le_refl _⟩), (fun x' w' hx' => by cases hx')⟩
  | succ d' ih' =>
    rw [t_dgs]
    by_cases hd' : t_dg β n' (e1' + 1) = true
    · rw [if_pos hd']
      obtain ⟨b1', b2'⟩ := ih' (e1' + 1) (10 * v' + (β e1' - 48)) (t_dgE hd').1
      exact ⟨fun x' hx' => ⟨(b1' x' hx').1, by have := (b1' x' hx').2; omega⟩, fun x' w' hx' => ⟨(b2' x' w' hx').1, by have := (b2' x' w' hx').2; omega⟩⟩
    · rw [if_neg hd']
      exact ⟨(fun x' hx' => by cases hx'), (fun x' w' hx' => by cases hx'; omega)⟩
theorem t_nmB {d' lo' hi' : Nat} (he' : e' ≤ n') : (∀ x', t_nm β n' d' lo' hi' e' = .inl x' → x' ≤ n' ∧ e' ≤ x') ∧ (∀ x' w', t_nm β n' d' lo' hi' e' = .inr (x', w') → x' ≤ n' ∧ e' < x' ∧ lo' ≤ w' ∧ w' ≤ hi') := by
  have hL' := t_skL β n' e'
  have hU' := t_skU β n' e' he'
  unfold t_nm
  by_cases hd' : t_dg β n' (t_sk β n' e') = true
  · rw [if_pos hd']
    obtain ⟨b1', b2'⟩ := t_dgsB (β := β) d' (t_sk β n' e') 0 (t_dgE hd').1
    cases hx' : t_dgs β n' d' (t_sk β n' e') 0 with
    | inl x' =>
      have := b1' x' hx'
      exact ⟨(fun y' hy' => by cases hy'; omega), (fun y' w' hy' => by cases hy')⟩
    | inr z' =>
      obtain ⟨x', v'⟩ := z'
      have := b2' x' v' hx'
      simp only
      by_cases hb' : lo' ≤ v' ∧ v' ≤ hi'
      · rw [if_pos hb']
        exact ⟨(fun y' hy' => by cases hy'), (fun y' w' hy' => by cases hy'; omega)⟩
      · rw [if_neg hb']
        exact ⟨(fun y' hy' => by cases hy'; omega), (fun y' w' hy' => by cases hy')⟩
  · rw [if_neg hd']
    exact ⟨(fun y' hy' => by cases hy'; omega), (fun y' w' hy' => by cases hy')⟩
end PT'
