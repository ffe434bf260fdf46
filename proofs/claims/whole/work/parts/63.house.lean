/-! a HOUSE's text: what it tells, and the class's reader -/
def t_it (β : Nat → Nat) (n' : Nat) (ts' : Nat → Nat) (m' : Nat) (lo' hi' : Nat → Nat) : Nat → Nat → (Nat → Bool) → (Nat → Nat) → Nat ⊕ (Nat × (Nat → Nat))
  | 0, e', _, _ => .inl e'
  | f' + 1, e', had', row' => match t_pa β n' ts' m' (t_sk β n' e') with
    | none => .inr (t_sk β n' e', row')
    | some k' => if had' k' = true then .inl (t_sk β n' e') else match t_nm β n' 2 (lo' k') (hi' k') (t_sk β n' e' + 1) with
      | .inl x' => .inl x'
      | .inr (x', v') => t_it β n' ts' m' lo' hi' f' x' (fun j' => had' j' || j' == k') (fun j' => if j' = k' then v' else row' j')
/-- letters, bounds and usual numbers of a sort of clause -/
abbrev t_KC : Type := (Nat → Nat) × Nat × (Nat → Nat) × (Nat → Nat) × (Nat → Nat)
def t_gl0 (l' : List Nat) (j' : Nat) : Nat := l'.getD j' 0
def t_K0 : t_KC := (t_gl0 [108, 104, 99], 3, t_gl0 [0, 0, 0], t_gl0 [3, 9, 99], t_gl0 [1, 3, 20])
def t_K1 : t_KC := (t_gl0 [119, 99, 107], 3, t_gl0 [0, 0, 0], t_gl0 [20, 9, 3], t_gl0 [12, 2, 0])
def t_K2 : t_KC := (t_gl0 [97, 115, 108, 112], 4, t_gl0 [0, 1, 0, 0], t_gl0 [20, 20, 3, 9], t_gl0 [0, 7, 0, 3])
def t_itK (β : Nat → Nat) (n' : Nat) (K' : t_KC) (e' : Nat) : Nat ⊕ (Nat × (Nat → Nat)) := t_it β n' K'.1 K'.2.1 K'.2.2.1 K'.2.2.2.1 (K'.2.1 + 1) e' (fun _ => false) K'.2.2.2.2
/-- the house so far: rules, dishes, guests, how many, whether ruled -/
abbrev t_hs : Type := (Nat → Nat) × (Nat → Nat) × (Nat → Nat) × Nat × Nat × Bool
def t_put (a' : Nat → Nat) (from' m' : Nat) (row' : Nat → Nat) (j' : Nat) : Nat := if from' ≤ j' ∧ j' < from' + m' then row' (j' - from') else a' j'
def t_cla (β : Nat → Nat) (n' e' : Nat) (h' : t_hs) : Nat ⊕ (Nat × t_hs) :=
  if t_is β n' (t_sk β n' e') 115 = true ∧ h'.2.2.2.2.2 = false then (match t_itK β n' t_K0 (t_sk β n' e' + 1) with
    | .inl x' => .inl x'
    | .inr (x', row') => .inr (x', row', h'.2.1, h'.2.2.1, h'.2.2.2.1, h'.2.2.2.2.1, true))
  else if t_is β n' (t_sk β n' e') 100 = true ∧ h'.2.2.2.1 < 5 then (match t_itK β n' t_K1 (t_sk β n' e' + 1) with
    | .inl x' => .inl x'
    | .inr (x', row') => .inr (x', h'.1, t_put h'.2.1 (3 * h'.2.2.2.1) 3 row', h'.2.2.1, h'.2.2.2.1 + 1, h'.2.2.2.2.1, h'.2.2.2.2.2))
  else if t_is β n' (t_sk β n' e') 103 = true ∧ h'.2.2.2.2.1 < 6 then (match t_itK β n' t_K2 (t_sk β n' e' + 1) with
    | .inl x' => .inl x'
    | .inr (x', row') => .inr (x', h'.1, h'.2.1, t_put h'.2.2.1 (4 * h'.2.2.2.2.1) 4 row', h'.2.2.2.1, h'.2.2.2.2.1 + 1, h'.2.2.2.2.2))
  else .inl (t_sk β n' e')
def t_hou (β : Nat → Nat) (n' : Nat) : Nat → Nat → t_hs → Nat ⊕ t_hs
  | 0, e', _ => .inl e'
  | f' + 1, e', h' => match t_cla β n' e' h' with
    | .inl x' => .inl x'
    | .inr (x', h'') => if t_sk β n' x' < n' then (if β (t_sk β n' x') = 59 then t_hou β n' f' (t_sk β n' x' + 1) h'' else .inl (t_sk β n' x'))
      else if 0 < h''.2.2.2.1 ∧ 0 < h''.2.2.2.2.1 then .inr h'' else .inl (t_sk β n' x')
def t_h0 : t_hs := (t_K0.2.2.2.2, (fun _ => 0), (fun _ => 0), 0, 0, false)
/-- the class: in the middle of a clause's items -/
def t_CI (I' : p_I) (rc' from' m' e' : Nat) (row' : Nat → Nat) (J' : p_I) : Prop := (∀ c', c' ≠ 37 → c' ≠ rc' → J' c' = I' c') ∧ (∀ j', j' ≠ 2 → j' ≠ 3 → J' 37 j' = I' 37 j') ∧ J' 37 2 = Int32.ofNat e' ∧ (∀ k', k' < m' → J' rc' (from' + k') = Int32.ofNat (row' k')) ∧ (∀ j', j' < from' ∨ from' + m' ≤ j' → J' rc' j' = I' rc' j')
def t_CX (I' : p_I) (rc' e' : Nat) (J' : p_I) : Prop := (∀ c', c' ≠ 37 → c' ≠ rc' → J' c' = I' c') ∧ (∀ j', j' ≠ 2 → j' ≠ 3 → J' 37 j' = I' 37 j') ∧ J' 37 2 = Int32.ofNat e'
theorem t_CIp {I' J' K' : p_I} {rc' from' m' e' e'' : Nat} {row' : Nat → Nat} (h' : t_CI I' rc' from' m' e' row' J') (hr' : rc' ≠ 37) (h2' : t_PE J' e'' K') : t_CI I' rc' from' m' e'' row' K' := ⟨fun c' h3' h4' => by rw [h2'.1 c' h3', h'.1 c' h3' h4'], fun j' h3' h4' => by rw [h2'.2.1 j' h3' h4', h'.2.1 j' h3' h4'], h2'.2.2, by rw [h2'.1 rc' hr']; exact h'.2.2.2.1, by rw [h2'.1 rc' hr']; exact h'.2.2.2.2⟩
theorem t_CIx {I' J' : p_I} {rc' from' m' e' : Nat} {row' : Nat → Nat} (h' : t_CI I' rc' from' m' e' row' J') : t_CX I' rc' e' J' := ⟨h'.1, h'.2.1, h'.2.2.1⟩
theorem t_TPc {β : Nat → Nat} {n' e' e'' : Nat} {I' J' : p_I} {rc' from' m' : Nat} {row' : Nat → Nat} (hT' : t_TP β n' e' I') (h' : t_CI I' rc' from' m' e'' row' J') (hr' : rc' ≠ 38) (he' : e'' ≤ n') : t_TP β n' e'' J' := by
  obtain ⟨a1', a2', a3', a4', a5', a6'⟩ := hT'
  exact ⟨by rw [h'.2.1 1 (by decide) (by decide)]; exact a1', h'.2.2.1, fun i' hi' => by rw [h'.1 38 (by decide) hr'.symm]; exact a3' i' hi', a4', he', a6'⟩
/-- the bounds' cell of the class -/
def t_BK (bc' : Nat) (K' : t_KC) (I' : p_I) (X' : p_X) : Prop := X'.2.2[bc']? = some (.inr (0, 3 * K'.2.1)) ∧ K'.2.1 ≤ 4 ∧ 0 < K'.2.1 ∧ (∀ k', k' < K'.2.1 → I' bc' (3 * k') = Int32.ofNat (K'.2.2.1 k') ∧ I' bc' (3 * k' + 1) = Int32.ofNat (K'.2.2.2.1 k') ∧ I' bc' (3 * k' + 2) = Int32.ofNat (K'.2.2.2.2 k')) ∧ (∀ k', K'.2.2.1 k' < 1000 ∧ K'.2.2.2.1 k' < 1000)
theorem t_paB {β : Nat → Nat} {n' : Nat} {ts' : Nat → Nat} {m' e' k' : Nat} (h' : t_pa β n' ts' m' e' = some k') : e' < n' ∧ k' < m' ∧ ts' k' = β e' := by
  unfold t_pa at h'
  split at h'
  · rename_i he'
    have := t_ixB ts' (β e') m' 0 k' h'
    exact ⟨he', by omega, this.2⟩
  · cases h'
section PH'
variable {X' : p_X} {I' : p_I} {β : Nat → Nat} {n' e' a' bc' rc' from' len' : Nat} {K' : t_KC}
theorem s_setUsual (hK' : t_BK bc' K' I' X') (hrc' : X'.2.2[rc']? = some (.inr (0, len'))) (hl' : from' + K'.2.1 ≤ len') (hlen : len' < 1000) (h36' : q_NS ≤ rc') (hbr' : bc' ≠ rc') :
    ∃ J', F_X3_setUsual bc' rc' (Int32.ofNat from') (Int32.ofNat K'.2.1) (I', X') = some ((), (J', X')) ∧ (∀ c', c' ≠ rc' → J' c' = I' c') ∧ (∀ k', k' < K'.2.1 → J' rc' (from' + k') = Int32.ofNat (K'.2.2.2.2 k')) ∧ (∀ j', j' < from' ∨ from' + K'.2.1 ≤ j' → J' rc' j' = I' rc' j') := by
  obtain ⟨k1', k2', k3', k4', k5'⟩ := hK'
  obtain ⟨z', h1', J', rfl, h2'⟩ := p_lp (fun z' => B_X3_setUsual_3 bc' rc' (Int32.ofNat from') (Int32.ofNat K'.2.1) z'.1 z'.2) (fun i' z' => ∃ J', z' = (Int32.ofNat i', (J', X')) ∧ (∀ c', c' ≠ rc' → J' c' = I' c') ∧ (∀ k', k' < i' → J' rc' (from' + k') = Int32.ofNat (K'.2.2.2.2 k')) ∧ (∀ j', j' < from' ∨ from' + K'.2.1 ≤ j' → J' rc' j' = I' rc' j'))
    (fun z' => ∃ J', z' = (J', X') ∧ (∀ c', c' ≠ rc' → J' c' = I' c') ∧ (∀ k', k' < K'.2.1 → J' rc' (from' + k') = Int32.ofNat (K'.2.2.2.2 k')) ∧ (∀ j', j' < from' ∨ from' + K'.2.1 ≤ j' → J' rc' j' = I' rc' j')) K'.2.1 (by
      rintro i' z' hi' ⟨J', rfl, j1', j2', j3'⟩
      unfold B_X3_setUsual_3
      by_cases hlt' : i' < K'.2.1
      · left
        have l2' : J' bc' (3 * i' + 2) = Int32.ofNat (K'.2.2.2.2 i') := by rw [j1' bc' hbr']; exact (k4' i' hlt').2.2
        have hfl' : from' + i' < len' := by omega
        simp (disch := omega) only [p_lt, hlt', ↓reduceIte, p_al hrc' (show (0 : Nat) < 6 by decide), p_ar, hfl', p_lI k1' (by omega), l2', p_tI hrc' (by omega) h36']
        refine ⟨_, rfl, True.intro, _, rfl, ?_, ?_, ?_⟩
        · intro c' hc'; rw [p_uc _ _ _ _ _ hc']; exact j1' c' hc'
        · intro k' hk'
          by_cases e' : k' = i'
          · subst e'; rw [p_us]
          · rw [p_uj _ _ _ _ _ (by omega)]; exact j2' k' (by omega)
        · intro j' hj'; rw [p_uj _ _ _ _ _ (by omega)]; exact j3' j' hj'
      · right
        have hi'' : i' = K'.2.1 := by omega
        subst hi''
        simp (disch := omega) only [p_lt, Nat.lt_irrefl, ↓reduceIte]
        exact ⟨_, rfl, J', rfl, j1', j2', j3'⟩) K'.2.1 0 q_fu (0, (I', X')) (by omega) (by unfold q_fu; omega) ⟨I', rfl, fun _ _ => rfl, fun k' hk' => absurd hk' (by omega), fun _ _ => rfl⟩
  refine ⟨J', ?_, h2'⟩
  unfold F_X3_setUsual
  rw [h1']
  rfl
theorem s_readItems (hB' : p_B X') (hT' : t_TP β n' e' I') (hK' : t_BK bc' K' I' X') (hS' : t_SH a' K'.1 K'.2.1 I' X') (hrc' : X'.2.2[rc']? = some (.inr (0, len'))) (hl' : from' + K'.2.1 ≤ len') (hlen : len' < 1000) (hr' : 44 ≤ rc') (hbc' : bc' < 36) (ha' : a' < 34) :
    (∃ x' J', t_itK β n' K' e' = .inl x' ∧ F_X3_readItems 37 a' bc' rc' (Int32.ofNat from') (I', X') = some (0, (J', X')) ∧ t_CX I' rc' x' J' ∧ x' ≤ n') ∨
    (∃ x' row' J', t_itK β n' K' e' = .inr (x', row') ∧ F_X3_readItems 37 a' bc' rc' (Int32.ofNat from') (I', X') = some (1, (J', X')) ∧ t_CI I' rc' from' K'.2.1 x' row' J' ∧ x' ≤ n') := by
  have hln' := s_len hS'
  obtain ⟨J0', u1', u2', u3', u4'⟩ := s_setUsual hK' hrc' hl' hlen (by unfold q_NS; omega) (show bc' ≠ rc' by omega)
  obtain ⟨k1', k2', k3', k4', k5'⟩ := id hK'
  have hC0' : t_CI I' rc' from' K'.2.1 e' K'.2.2.2.2 J0' := ⟨fun c' h1' h2' => u2' c' h2', fun j' h1' h2' => by rw [u2' 37 (by omega)], by rw [u2' 37 (by omega)]; exact hT'.2.1, u3', u4'⟩
  have hSk' : ∀ J' : p_I, (∀ c', c' ≠ 37 → c' ≠ rc' → J' c' = I' c') → t_SH a' K'.1 K'.2.1 J' X' := fun J' hJ' => by
    obtain ⟨h1', h3', h4', h5', h6', h7'⟩ := hS'
    exact ⟨h1', h3', h4', by rw [hJ' a' (by omega) (by omega)]; exact h5', by rw [hJ' _ (by omega) (by omega)]; exact h6', h7'⟩
  obtain ⟨z', h1', h2'⟩ := p_lp (fun z' => B_X3_readItems_17 37 a' bc' rc' (Int32.ofNat from') z'.1 z'.2.1 z'.2.2)
    (fun i' z' => ∃ J' e1' had' row', z' = (t_B had', Int32.ofNat i', (J', X')) ∧ t_CI I' rc' from' K'.2.1 e1' row' J' ∧ e1' ≤ n' ∧ t_it β n' K'.1 K'.2.1 K'.2.2.1 K'.2.2.2.1 (K'.2.1 + 1 - i') e1' had' row' = t_itK β n' K' e')
    (fun z' => (∃ x' J', t_itK β n' K' e' = .inl x' ∧ (z' = .inr (.inl (J', X')) ∨ z' = .inr (.inr (.inl (J', X'))) ∨ z' = .inr (.inr (.inr (J', X')))) ∧ t_CX I' rc' x' J' ∧ x' ≤ n') ∨ (∃ x' row' J', t_itK β n' K' e' = .inr (x', row') ∧ z' = .inl (J', X') ∧ t_CI I' rc' from' K'.2.1 x' row' J' ∧ x' ≤ n')) (K'.2.1 + 1) (by
      rintro i' z' hi' ⟨J', e1', had', row', rfl, j1', j2', j3'⟩
      have hT1' := t_TPc hT' j1' (by omega) j2'
      have hS1' := hSk' J' j1'.1
      have hln1' := s_len hS1'
      unfold B_X3_readItems_17
      by_cases hlt' : i' < K'.2.1 + 1
      · have hni' : ¬ K'.2.1 < i' := by omega
        rw [show K'.2.1 + 1 - i' = (K'.2.1 + 1 - (i' + 1)) + 1 by omega, t_it] at j3'
        obtain ⟨J1', b1', b2'⟩ := s_peekAmong hB' hT1' hS1' (by omega) (by omega)
        have hU' := t_skU β n' e1' j2'
        have c1' := t_CIp j1' (by omega) b2'
        simp (disch := omega) only [p_ob hS1'.1, hln1', p_bs, p_lt, hni', ↓reduceIte, p_ob (sh_37 hB'), b1']
        cases hpa' : t_pa β n' K'.1 K'.2.1 (t_sk β n' e1') with
        | none =>
          right
          rw [hpa'] at j3'
          simp only [t_nx, ↓reduceIte]
          exact ⟨_, rfl, .inr ⟨_, _, J1', j3'.symm, rfl, c1', hU'⟩⟩
        | some k' =>
          rw [hpa'] at j3'
          obtain ⟨p1', p2', p3'⟩ := t_paB hpa'
          simp (disch := omega) only [t_nx, p_ofN1, ↓reduceIte, t_bitE, t_BA]
          cases hh' : had' k'
          · simp only [hh', Bool.false_eq_true, ↓reduceIte] at j3'
            have hfk' : from' + k' < len' := by omega
            have q1' := t_PEu (e'' := t_sk β n' e1' + 1) b2'
            have c2' := t_CIp j1' (by omega) q1'
            have hT2' := t_TPc hT' c2' (by omega) (by omega)
            have l0' : q_u2 J1' 37 2 (Int32.ofNat (t_sk β n' e1' + 1)) bc' (3 * k') = Int32.ofNat (K'.2.2.1 k') := by rw [c2'.1 bc' (by omega) (by omega)]; exact (k4' k' p2').1
            have l1' : q_u2 J1' 37 2 (Int32.ofNat (t_sk β n' e1' + 1)) bc' (3 * k' + 1) = Int32.ofNat (K'.2.2.2.1 k') := by rw [c2'.1 bc' (by omega) (by omega)]; exact (k4' k' p2').2.1
            have h5' := k5' k'
            simp (disch := omega) only [↓reduceIte, p_al hrc' (show (0 : Nat) < 6 by decide), p_ar, p_lt, hfk', ↓ce_37 hB', b2'.2.2, p_lI k1' (by omega), l0', l1']
            have hnm' := s_readNumber (d' := 2) (lo' := K'.2.2.1 k') (hi' := K'.2.2.2.1 k') hB' hT2' (by omega) (by omega) (by omega) (by omega)
            have hNB' := t_nmB (β := β) (n' := n') (d' := 2) (lo' := K'.2.2.1 k') (hi' := K'.2.2.2.1 k') (e' := t_sk β n' e1' + 1) (by omega)
            rcases hnm' with ⟨x', J2', d1', d2', d3'⟩ | ⟨x', v', J2', d1', d2', d3', d4'⟩
            · right
              rw [d1'] at j3'
              have hx' := hNB'.1 x' d1'
              have d2'' : F_X9_readNumber 37 2 (Int32.ofNat (K'.2.2.1 k')) (Int32.ofNat (K'.2.2.2.1 k')) (q_u2 J1' 37 2 (Int32.ofNat (t_sk β n' e1' + 1)), X') = some (0, (J2', X')) := d2'
              simp only [d2'', p_bs, ↓reduceIte]
              exact ⟨_, rfl, .inl ⟨x', J2', j3'.symm, .inr (.inl rfl), t_CIx (t_CIp c2' (by omega) d3'), by omega⟩⟩
            · left
              rw [d1'] at j3'
              have hx' := hNB'.2 x' v' d1'
              have d2'' : F_X9_readNumber 37 2 (Int32.ofNat (K'.2.2.1 k')) (Int32.ofNat (K'.2.2.2.1 k')) (q_u2 J1' 37 2 (Int32.ofNat (t_sk β n' e1' + 1)), X') = some (1, (J2', X')) := d2'
              have c3' := t_CIp c2' (by omega) d3'
              simp (disch := omega) only [d2'', p_bs, show ((1 : Int32) = 0) = False from by decide, ↓reduceIte, ↓ce_37 hB', d4', p_tI hrc' (by omega) (show q_NS ≤ rc' by unfold q_NS; omega), t_BO, p_ar]
              refine ⟨_, rfl, hlt', _, x', _, _, rfl, ⟨?_, ?_, ?_, ?_, ?_⟩, by omega, j3'⟩
              · intro c' h3' h4'; rw [p_uc _ _ _ _ _ h4']; exact c3'.1 c' h3' h4'
              · intro j' h3' h4'; rw [p_uc _ _ _ _ _ (show (37 : Nat) ≠ rc' by omega)]; exact c3'.2.1 j' h3' h4'
              · rw [p_uc _ _ _ _ _ (show (37 : Nat) ≠ rc' by omega)]; exact c3'.2.2.1
              · intro k'' hk''
                by_cases ek' : k'' = k'
                · subst ek'; rw [p_us, if_pos rfl]
                · rw [p_uj _ _ _ _ _ (by omega), if_neg ek']; exact c3'.2.2.2.1 k'' hk''
              · intro j' hj'; rw [p_uj _ _ _ _ _ (by omega)]; exact c3'.2.2.2.2 j' hj'
          · right
            simp only [hh', ↓reduceIte] at j3'
            simp only [Bool.true_eq_false, ↓reduceIte]
            exact ⟨_, rfl, .inl ⟨_, J1', j3'.symm, .inl rfl, t_CIx c1', hU'⟩⟩
      · right
        have hi'' : i' = K'.2.1 + 1 := by omega
        subst hi''
        rw [Nat.sub_self, t_it] at j3'
        have hni' : K'.2.1 < K'.2.1 + 1 := by omega
        simp (disch := omega) only [p_ob hS1'.1, hln1', p_bs, p_lt, hni', ↓reduceIte]
        exact ⟨_, rfl, .inl ⟨e1', J', j3'.symm, .inr (.inr rfl), t_CIx j1', j2'⟩⟩) (K'.2.1 + 1) 0 q_fu (0, 0, (J0', X')) (by omega) (by unfold q_fu; omega) ⟨J0', e', (fun _ => false), K'.2.2.2.2, by rw [t_BZ (fun _ _ => rfl)]; rfl, hC0', hT'.2.2.2.2.1, rfl⟩
  unfold F_X3_readItems
  simp only [p_ob hS'.1, hln', p_bs, u1', h1']
  rcases h2' with ⟨x', J', c1', c2', c3', c4'⟩ | ⟨x', row', J', c1', c2', c3', c4'⟩
  · left
    refine ⟨x', J', c1', ?_, c3', c4'⟩
    rcases c2' with rfl | rfl | rfl <;> rfl
  · right
    subst c2'
    exact ⟨x', row', J', c1', rfl, c3', c4'⟩
end PH'
