/-! the class's reader of a LAW, whole -/
/-- a clause: its condition, its sum -/
abbrev t_Cl : Type := Option (List Int32 × t_V) × List Int32 × t_V
def t_clr (β : Nat → Nat) (n' x' : Nat) (cc' : List Int32) (cv' : t_V) : Nat ⊕ (Nat × t_Cl) :=
  if t_is β n' (t_sk β n' x') 63 = true then (match t_sum β n' 6 (t_sk β n' x' + 1) with
    | .inl y' => .inl y'
    | .inr (y', c', v') => .inr (y', some (cc', cv'), c', v')) else .inl (t_sk β n' x')
def t_clz (β : Nat → Nat) (n' e' : Nat) : Nat ⊕ (Nat × t_Cl) :=
  if t_is β n' (t_sk β n' e') 121 = true then (if t_is β n' (t_sk β n' (t_sk β n' e' + 1)) 58 = true then (match t_pa β n' t_s4 2 (t_sk β n' (t_sk β n' (t_sk β n' e' + 1) + 1)) with
      | some _ => (match t_cndO β n' (t_unt β n' 6) none (t_sk β n' (t_sk β n' (t_sk β n' e' + 1) + 1)) with
        | .inl x' => .inl x'
        | .inr (x', cc', cv') => t_clr β n' x' cc' cv')
      | none => (match t_sum β n' 6 (t_sk β n' (t_sk β n' (t_sk β n' e' + 1) + 1)) with
        | .inl x' => .inl x'
        | .inr (x', c', v') => (match t_pa β n' t_s3 3 (t_sk β n' x') with
          | none => .inr (t_sk β n' x', none, c', v')
          | some _ => (match t_cndO β n' (t_unt β n' 6) (some (c', v')) (t_sk β n' x') with
            | .inl y' => .inl y'
            | .inr (y', cc', cv') => t_clr β n' y' cc' cv'))))
    else .inl (t_sk β n' (t_sk β n' e' + 1))) else .inl (t_sk β n' e')
def t_cc (p' : Nat) (cl' : t_Cl) : List Int32 := match cl' with
  | (none, c', _) => c' ++ [-18]
  | (some (cc', _), c', _) => cc' ++ [-17, Int32.ofNat (p' + (cc'.length + 2 + c'.length + 1))] ++ c' ++ [-18]
def t_lcA (cs' : List Int32) (cl' : t_Cl) : List Int32 := cs' ++ t_cc cs'.length cl'
def t_lcode (cls' : List t_Cl) : List Int32 := cls'.foldl t_lcA []
def t_law (β : Nat → Nat) (n' : Nat) : Nat → Nat → List t_Cl → Nat ⊕ List t_Cl
  | 0, e', _ => .inl e'
  | f' + 1, e', cls' => match t_clz β n' e' with
    | .inl x' => .inl x'
    | .inr (x', cl') => if t_sk β n' x' < n' then (if β (t_sk β n' x') = 59 then t_law β n' f' (t_sk β n' x' + 1) (cls' ++ [cl']) else .inl (t_sk β n' x')) else .inr (cls' ++ [cl'])
/-- a clause is good -/
def t_GC (cl' : t_Cl) : Prop := (match cl'.1 with
  | none => True
  | some (cc', cv') => ∀ ρ, t_Lb ρ → (cv' ρ = 0 ∨ cv' ρ = 1) ∧ ∀ st' : List Int32, st'.length + 18 ≤ 32 → t_run ρ cc' st' = some (cv' ρ :: st')) ∧ ∀ ρ, t_Lb ρ → ∀ st' : List Int32, st'.length + 15 ≤ 32 → t_run ρ cl'.2.1 st' = some (cl'.2.2 ρ :: st')
theorem t_ccL (p' : Nat) (cl' : t_Cl) : (t_cc p' cl').length = (match cl'.1 with | none => cl'.2.1.length + 1 | some (cc', _) => cc'.length + 2 + cl'.2.1.length + 1) := by
  obtain ⟨b', c', v'⟩ := cl'
  cases b' with
  | none => show (c' ++ [-18]).length = _; rw [List.length_append]; rfl
  | some z' =>
    obtain ⟨cc', cv'⟩ := z'
    show (cc' ++ [-17, Int32.ofNat (p' + (cc'.length + 2 + c'.length + 1))] ++ c' ++ [-18]).length = _
    rw [List.length_append, List.length_append, List.length_append]
    rfl
theorem t_gdS (A' B' : List Int32) (x' : Int32) : (A' ++ x' :: B').getD A'.length 0 = x' := by
  rw [List.getD_eq_getElem?_getD, List.getElem?_append_right (Nat.le_refl _), Nat.sub_self]
  rfl
theorem t_gdN (A' B' : List Int32) (x' y' : Int32) (j' : Nat) (h' : j' ≠ A'.length) : (A' ++ x' :: B').getD j' 0 = (A' ++ y' :: B').getD j' 0 := by
  rw [List.getD_eq_getElem?_getD, List.getD_eq_getElem?_getD]
  by_cases hj' : j' < A'.length
  · rw [List.getElem?_append_left hj', List.getElem?_append_left hj']
  · rw [List.getElem?_append_right (by omega), List.getElem?_append_right (by omega)]
    obtain ⟨m', hm'⟩ : ∃ m', j' - A'.length = m' + 1 := ⟨j' - A'.length - 1, by omega⟩
    rw [hm']
    rfl
section PL'
variable {X' : p_X} {I' J' : p_I} {β : Nat → Nat} {n' e' e00' : Nat} {cs' : List Int32}
def t_GZ (n' e' : Nat) (r' : Nat ⊕ (Nat × t_Cl)) : Prop := match r' with
  | .inl x' => e' ≤ x' ∧ x' ≤ n'
  | .inr (x', cl') => e' < x' ∧ x' ≤ n' ∧ (t_cc 0 cl').length + e' ≤ x' ∧ t_GC cl'
theorem t_GZr {x' : Nat} {cc' : List Int32} {cv' : t_V} (he' : e' ≤ x') (hx' : x' ≤ n') (hl' : cc'.length + e' + 2 ≤ x') (hc' : ∀ ρ, t_Lb ρ → (cv' ρ = 0 ∨ cv' ρ = 1) ∧ ∀ st' : List Int32, st'.length + 18 ≤ 32 → t_run ρ cc' st' = some (cv' ρ :: st')) : t_GZ n' e' (t_clr β n' x' cc' cv') := by
  have hL' := t_skL β n' x'
  have hU' := t_skU β n' x' hx'
  unfold t_clr
  by_cases h63' : t_is β n' (t_sk β n' x') 63 = true
  · rw [if_pos h63']
    have hlt' := t_is1 h63'
    have hg' := t_GRsum (β := β) (n' := n') 6 (t_sk β n' x' + 1) (by omega)
    cases hs' : t_sum β n' 6 (t_sk β n' x' + 1) with
    | inl y' => rw [hs'] at hg'; exact ⟨by have := hg'.1; omega, hg'.2⟩
    | inr z' =>
      obtain ⟨y', c', v'⟩ := z'
      rw [hs'] at hg'
      obtain ⟨k1', k2', k3', k4', k5'⟩ := hg'
      refine ⟨by omega, k2', ?_, hc', fun ρ hρ => (k5' ρ hρ).2.2⟩
      rw [t_ccL]
      show cc'.length + 2 + c'.length + 1 + e' ≤ y'
      omega
  · rw [if_neg h63']; exact ⟨by omega, hU'⟩
theorem t_GZz (he' : e' ≤ n') : t_GZ n' e' (t_clz β n' e') := by
  have hL' := t_skL β n' e'
  have hU' := t_skU β n' e' he'
  unfold t_clz
  by_cases h1' : t_is β n' (t_sk β n' e') 121 = true
  · rw [if_pos h1']
    have q1' := t_is1 h1'
    have hL2' := t_skL β n' (t_sk β n' e' + 1)
    have hU2' := t_skU β n' (t_sk β n' e' + 1) (by omega)
    by_cases h2' : t_is β n' (t_sk β n' (t_sk β n' e' + 1)) 58 = true
    · rw [if_pos h2']
      have q2' := t_is1 h2'
      generalize ha' : t_sk β n' (t_sk β n' e' + 1) + 1 = a' at *
      have hL3' := t_skL β n' a'
      have hU3' := t_skU β n' a' (by omega)
      cases hpa' : t_pa β n' t_s4 2 (t_sk β n' a') with
      | some w' =>
        have hg' := t_GRcnd (β := β) (n' := n') 6 none (t_sk β n' a') hU3' trivial
        simp only
        cases hs' : t_cndO β n' (t_unt β n' 6) none (t_sk β n' a') with
        | inl y' => rw [hs'] at hg'; exact ⟨by have := hg'.1; omega, hg'.2⟩
        | inr z' =>
          obtain ⟨x', cc', cv'⟩ := z'
          rw [hs'] at hg'
          obtain ⟨k1', k2', k3', k4', k5'⟩ := hg'
          have k3' : cc'.length + t_sk β n' a' ≤ x' + 0 := k3'
          exact t_GZr (by omega) k2' (by omega) (fun ρ hρ => ⟨(k5' ρ hρ).2.1 trivial, (k5' ρ hρ).2.2⟩)
      | none =>
        have hg' := t_GRsum (β := β) (n' := n') 6 (t_sk β n' a') hU3'
        simp only
        cases hs' : t_sum β n' 6 (t_sk β n' a') with
        | inl y' => rw [hs'] at hg'; exact ⟨by have := hg'.1; omega, hg'.2⟩
        | inr z' =>
          obtain ⟨x', c', v'⟩ := z'
          rw [hs'] at hg'
          obtain ⟨k1', k2', k3', k4', k5'⟩ := hg'
          have hL4' := t_skL β n' x'
          have hU4' := t_skU β n' x' k2'
          simp only
          cases hp3' : t_pa β n' t_s3 3 (t_sk β n' x') with
          | none =>
            refine ⟨by omega, hU4', ?_, trivial, fun ρ hρ => (k5' ρ hρ).2.2⟩
            rw [t_ccL]
            show c'.length + 1 + e' ≤ _
            omega
          | some w' =>
            have hg2' := t_GRcnd (β := β) (n' := n') 6 (some (c', v')) (t_sk β n' x') hU4' ⟨by omega, k4', fun ρ hρ => ⟨(k5' ρ hρ).1, (k5' ρ hρ).2.2⟩⟩
            simp only
            cases hs2' : t_cndO β n' (t_unt β n' 6) (some (c', v')) (t_sk β n' x') with
            | inl y' => rw [hs2'] at hg2'; exact ⟨by have := hg2'.1; omega, hg2'.2⟩
            | inr z' =>
              obtain ⟨y', cc', cv'⟩ := z'
              rw [hs2'] at hg2'
              obtain ⟨m1', m2', m3', m4', m5'⟩ := hg2'
              have m3' : cc'.length + t_sk β n' x' ≤ y' + c'.length := m3'
              exact t_GZr (by omega) m2' (by omega) (fun ρ hρ => ⟨(m5' ρ hρ).2.1 trivial, (m5' ρ hρ).2.2⟩)
    · rw [if_neg h2']; exact ⟨by omega, hU2'⟩
  · rw [if_neg h1']; exact ⟨hL', hU'⟩
/-- what the class makes of a clause -/
def t_CZ (X' : p_X) (I' : p_I) (cs' : List Int32) (o' : Option (Int32 × q_Mem)) (r' : Nat ⊕ (Nat × t_Cl)) : Prop := match r' with
  | .inl x' => ∃ J'', o' = some (0, (J'', X')) ∧ t_LX I' x' J''
  | .inr (x', cl') => ∃ J'', o' = some (1, (J'', X')) ∧ t_LP I' x' (cs' ++ t_cc cs'.length cl') J''
theorem s_cl84 (hB' : p_B X') (hS' : p_S I') (hT' : t_TP β n' e00' I') (b' : t_Bg) (hC' : t_LP I' e' (cs' ++ t_bc0 b') J') (he' : e' ≤ n') (hl' : cs'.length + t_bl b' + 2 ≤ e') (hb' : t_GB n' 15 e' b') : t_CZ X' I' cs' (J_X5_readClause_84 49 (t_bi b') (J', X')) (match t_cndO β n' (t_unt β n' 6) b' e' with
        | .inl x' => .inl x'
        | .inr (x', cc', cv') => t_clr β n' x' cc' cv') := by
  have hn' := hT'.2.2.2.1
  have hr' : t_CS X' I' cs' (R_X5_readCondition 60 0 49 0 (t_bi b') (J', X')) (t_cndO β n' (t_unt β n' 6) b' e') := s_cRcond hB' hS' hT' b' cs' e' J' hC' he' (by omega) hb'
  have hg' := t_GRcnd (β := β) (n' := n') 6 b' e' he' hb'
  unfold J_X5_readClause_84
  cases hs' : t_cndO β n' (t_unt β n' 6) b' e' with
  | inl x' =>
    rw [hs'] at hr'
    obtain ⟨J1', r1', r2'⟩ := hr'
    simp (disch := omega) only [↓ce_49 hB', rf_49 hB', ↓nn_38, ↓nn_51, p_bs, p_rq0, p_rq1, p_rz0, p_rz1, p_us, p_un, p_uj, ↓reduceIte, r1']
    exact ⟨J1', rfl, r2'⟩
  | inr z' =>
    obtain ⟨x', cc', cv'⟩ := z'
    rw [hs'] at hr' hg'
    obtain ⟨J1', r1', r2'⟩ := hr'
    obtain ⟨k1', k2', k3', k4', k5'⟩ := hg'
    obtain ⟨J2', t1', t2'⟩ := s_take hB' (t_TPl hT' r2' k2') 63 (by decide)
    have t1'' : F_X9_take 37 63 (J1', X') = some (t_b (t_is β n' (t_sk β n' x') 63), (J2', X')) := t1'
    have hL' := t_skL β n' x'
    simp (disch := omega) only [↓ce_49 hB', rf_49 hB', ↓ce_37 hB', rf_37 hB', ↓nn_38, ↓nn_39, ↓nn_51, p_bs, p_rq0, p_rq1, p_rz0, p_rz1, p_us, p_un, p_uj, ↓reduceIte, r1', show ((1 : Int32) = 0) = False from by decide, t1'', t_b0]
    unfold t_clr
    cases h63' : t_is β n' (t_sk β n' x') 63
    · rw [h63', if_neg (by decide)] at t2'
      simp only [↓reduceIte, Bool.false_eq_true]
      exact ⟨J2', rfl, t_LPx (t_LPp r2' t2')⟩
    · rw [h63', if_pos rfl] at t2'
      have hlt' := t_is1 h63'
      simp only [Bool.true_eq_false, ↓reduceIte]
      have c2' := t_LPp r2' t2'
      have hlen : (cs' ++ cc').length + 2 ≤ x' := by rw [List.length_append]; omega
      obtain ⟨J3', w1', w2'⟩ := s_write hB' c2' (by omega) (-17)
      have l3' : J3' 49 2 = Int32.ofNat ((cs' ++ cc').length + 1) := by
        have := w2'.2.2.2.2.1
        rw [List.length_append] at this
        exact this
      obtain ⟨J4', w3', w4'⟩ := s_write hB' w2' (by rw [List.length_append]; show (cs' ++ cc').length + 1 < 240; omega) 0
      have hr2' := s_cRsum hB' hS' hT' 6 (by omega) 60 (by omega) (cs' ++ cc' ++ [-17] ++ [0]) (t_sk β n' x' + 1) J4' w4' (by omega) (by rw [List.length_append, List.length_append]; show (cs' ++ cc').length + 1 + 1 ≤ _; omega)
      have hr2'' : t_CS X' I' (cs' ++ cc' ++ [-17] ++ [0]) (R_X5_readAtom 60 1 49 0 (J4', X')) (t_sum β n' 6 (t_sk β n' x' + 1)) := hr2'
      have hg2' := t_GRsum (β := β) (n' := n') 6 (t_sk β n' x' + 1) (by omega)
      simp (disch := omega) only [↓ce_49 hB', rf_49 hB', ↓ce_37 hB', rf_37 hB', ↓nn_38, ↓nn_39, ↓nn_51, p_bs, p_rq0, p_rq1, p_rz0, p_rz1, p_us, p_un, p_uj, ↓reduceIte, w1', l3', w3']
      cases hs2' : t_sum β n' 6 (t_sk β n' x' + 1) with
      | inl y' =>
        rw [hs2'] at hr2''
        obtain ⟨J5', q1', q2'⟩ := hr2''
        simp (disch := omega) only [↓ce_49 hB', rf_49 hB', ↓nn_38, ↓nn_51, p_bs, p_rq0, p_rq1, p_rz0, p_rz1, p_us, p_un, p_uj, ↓reduceIte, q1']
        exact ⟨J5', rfl, q2'⟩
      | inr z' =>
        obtain ⟨y', c', v'⟩ := z'
        rw [hs2'] at hr2'' hg2'
        obtain ⟨J5', q1', q2'⟩ := hr2''
        obtain ⟨m1', m2', m3', m4', m5'⟩ := hg2'
        have hlen5 : (cs' ++ cc' ++ [-17] ++ [0] ++ c').length = (cs' ++ cc').length + 1 + 1 + c'.length := by
          rw [List.length_append, List.length_append, List.length_append]; rfl
        obtain ⟨J6', w5', w6'⟩ := s_write hB' q2' (by rw [hlen5]; omega) (-18)
        have l6' : J6' 49 2 = Int32.ofNat (cs'.length + (cc'.length + 2 + c'.length + 1)) := by
          have := w6'.2.2.2.2.1
          rw [List.length_append, hlen5] at this
          rw [this]
          congr 1
          rw [List.length_append]
          show cs'.length + cc'.length + 1 + 1 + c'.length + 1 = _
          omega
        have hj' : (cs' ++ cc').length + 1 < 240 := by omega
        simp (disch := omega) only [↓ce_49 hB', rf_49 hB', ↓ce_50 hB', ↓nn_38, ↓nn_51, p_bs, p_rq0, p_rq1, p_rz0, p_rz1, p_us, p_un, p_uj, ↓reduceIte, q1', show ((1 : Int32) = 0) = False from by decide, w5', p_cm, hj', l6']
        refine ⟨_, rfl, ?_⟩
        obtain ⟨a1', a2', a3', a4', a5', a6'⟩ := w6'
        have hA' : cs' ++ cc' ++ [-17] ++ [0] ++ c' ++ [-18] = (cs' ++ cc' ++ [-17]) ++ 0 :: (c' ++ [-18]) := by simp only [List.append_assoc, List.cons_append, List.nil_append]
        have hA2' : cs' ++ t_cc cs'.length (some (cc', cv'), c', v') = (cs' ++ cc' ++ [-17]) ++ Int32.ofNat (cs'.length + (cc'.length + 2 + c'.length + 1)) :: (c' ++ [-18]) := by
          show cs' ++ (cc' ++ [-17, Int32.ofNat (cs'.length + (cc'.length + 2 + c'.length + 1))] ++ c' ++ [-18]) = _
          simp only [List.append_assoc, List.cons_append, List.nil_append]
        have hlA' : (cs' ++ cc' ++ [-17]).length = (cs' ++ cc').length + 1 := by rw [List.length_append]; rfl
        rw [hA'] at a5' a6'
        rw [hA2']
        refine ⟨?_, ?_, ?_, ?_, ?_, ?_⟩
        · intro c' h3' h4' h5'; rw [p_uc _ _ _ _ _ h5']; exact a1' c' h3' h4' h5'
        · intro j' h3' h4'; rw [p_uc _ _ _ _ _ (by decide)]; exact a2' j' h3' h4'
        · rw [p_uc _ _ _ _ _ (by decide)]; exact a3'
        · intro j' h3'; rw [p_uc _ _ _ _ _ (by decide)]; exact a4' j' h3'
        · rw [p_uc _ _ _ _ _ (by decide), a5']; simp only [List.length_append, List.length_cons]
        · intro j' hj2'
          by_cases ej' : j' = (cs' ++ cc').length + 1
          · subst ej'
            rw [p_us, ← hlA', t_gdS]
          · rw [p_uj _ _ _ _ _ ej', a6' j' (by rw [List.length_append] at hj2' ⊢; exact hj2')]
            exact t_gdN _ _ _ _ j' (by rw [hlA']; exact ej')
theorem s_cclz (hB' : p_B X') (hS' : p_S I') (hT' : t_TP β n' e00' I') (hC' : t_LP I' e' cs' J') (he' : e' ≤ n') (hl' : cs'.length ≤ e') : t_CZ X' I' cs' (F_X5_readClause 49 (J', X')) (t_clz β n' e') := by
  have hn' := hT'.2.2.2.1
  have hL' := t_skL β n' e'
  have hU' := t_skU β n' e' he'
  obtain ⟨J1', t1', t2'⟩ := s_take hB' (t_TPl hT' hC' he') 121 (by decide)
  have t1'' : F_X9_take 37 121 (J', X') = some (t_b (t_is β n' (t_sk β n' e') 121), (J1', X')) := t1'
  unfold F_X5_readClause t_clz
  simp (disch := omega) only [↓ce_49 hB', rf_49 hB', ↓ce_37 hB', rf_37 hB', ↓nn_38, ↓nn_39, ↓nn_51, p_bs, p_rq0, p_rq1, p_rz0, p_rz1, p_us, p_un, p_uj, ↓reduceIte, t1'', t_b0]
  cases h1' : t_is β n' (t_sk β n' e') 121
  · rw [h1', if_neg (by decide)] at t2'
    simp only [↓reduceIte, Bool.false_eq_true, p_rz0]
    exact ⟨J1', rfl, t_LPx (t_LPp hC' t2')⟩
  · have q1' := t_is1 h1'
    rw [h1', if_pos rfl] at t2'
    have c1' := t_LPp hC' t2'
    have hL2' := t_skL β n' (t_sk β n' e' + 1)
    have hU2' := t_skU β n' (t_sk β n' e' + 1) (by omega)
    obtain ⟨J2', u1', u2'⟩ := s_take hB' (t_TPl hT' c1' (by omega)) 58 (by decide)
    have u1'' : F_X9_take 37 58 (J1', X') = some (t_b (t_is β n' (t_sk β n' (t_sk β n' e' + 1)) 58), (J2', X')) := u1'
    simp (disch := omega) only [↓ce_49 hB', rf_49 hB', ↓ce_37 hB', rf_37 hB', ↓nn_38, ↓nn_39, ↓nn_51, p_bs, p_rq0, p_rq1, p_rz0, p_rz1, p_us, p_un, p_uj, ↓reduceIte, Bool.true_eq_false, u1'', t_b0]
    cases h2' : t_is β n' (t_sk β n' (t_sk β n' e' + 1)) 58
    · rw [h2', if_neg (by decide)] at u2'
      simp only [↓reduceIte, Bool.false_eq_true, p_rz0]
      exact ⟨J2', rfl, t_LPx (t_LPp c1' u2')⟩
    · have q2' := t_is1 h2'
      rw [h2', if_pos rfl] at u2'
      have c2' := t_LPp c1' u2'
      generalize ha' : t_sk β n' (t_sk β n' e' + 1) + 1 = a' at *
      have hL3' := t_skL β n' a'
      have hU3' := t_skU β n' a' (by omega)
      obtain ⟨J3', b1', b2'⟩ := s_peekAmong hB' (t_TPl hT' c2' (by omega)) (t_SHl (t_sh10 hB' hS') c2' (by decide)) (by decide) (by decide)
      have c3' := t_LPp c2' b2'
      simp (disch := omega) only [↓ce_49 hB', rf_49 hB', ↓ce_37 hB', rf_37 hB', ↓nn_38, ↓nn_39, ↓nn_51, p_bs, p_rq0, p_rq1, p_rz0, p_rz1, p_us, p_un, p_uj, ↓reduceIte, Bool.true_eq_false, b1']
      unfold J_X5_readClause_44 J_X5_readClause_59
      cases hpa' : t_pa β n' t_s4 2 (t_sk β n' a') with
      | some w' =>
        obtain ⟨p1', p2', p3'⟩ := t_paB hpa'
        have hnw' : ¬ Int32.ofNat w' = -1 := p_of1 w' (by omega)
        simp only [t_nxS, hnw', ↓reduceIte]
        exact s_cl84 hB' hS' hT' none (by show t_LP I' _ (cs' ++ []) J3'; rw [List.append_nil]; exact c3') hU3' (by show cs'.length + 0 + 2 ≤ _; omega) trivial
      | none =>
        have hr' : t_CS X' I' cs' (R_X5_readAtom 60 1 49 0 (J3', X')) (t_sum β n' 6 (t_sk β n' a')) := s_cRsum hB' hS' hT' 6 (by omega) 60 (by omega) cs' (t_sk β n' a') J3' c3' hU3' (by omega)
        have hg' := t_GRsum (β := β) (n' := n') 6 (t_sk β n' a') hU3'
        simp (disch := omega) only [↓ce_49 hB', rf_49 hB', ↓nn_38, ↓nn_51, p_bs, p_rq0, p_rq1, p_rz0, p_rz1, p_us, p_un, p_uj, ↓reduceIte, t_nx, show ((1 : Int32) = 0) = False from by decide]
        cases hs' : t_sum β n' 6 (t_sk β n' a') with
        | inl y' =>
          rw [hs'] at hr'
          obtain ⟨J4', r1', r2'⟩ := hr'
          simp (disch := omega) only [↓ce_49 hB', rf_49 hB', ↓nn_38, ↓nn_51, p_bs, p_rq0, p_rq1, p_rz0, p_rz1, p_us, p_un, p_uj, ↓reduceIte, r1']
          exact ⟨J4', rfl, r2'⟩
        | inr z' =>
          obtain ⟨x', c', v'⟩ := z'
          rw [hs'] at hr' hg'
          obtain ⟨J4', r1', r2'⟩ := hr'
          obtain ⟨k1', k2', k3', k4', k5'⟩ := hg'
          have hL4' := t_skL β n' x'
          have hU4' := t_skU β n' x' k2'
          obtain ⟨J5', d1', d2'⟩ := s_peekAmong hB' (t_TPl hT' r2' k2') (t_SHl (t_sh12 hB' hS') r2' (by decide)) (by decide) (by decide)
          have c5' := t_LPp r2' d2'
          simp (disch := omega) only [↓ce_49 hB', rf_49 hB', ↓ce_37 hB', rf_37 hB', ↓nn_38, ↓nn_39, ↓nn_51, p_bs, p_rq0, p_rq1, p_rz0, p_rz1, p_us, p_un, p_uj, ↓reduceIte, r1', show ((1 : Int32) = 0) = False from by decide, d1']
          cases hp3' : t_pa β n' t_s3 3 (t_sk β n' x') with
          | none =>
            obtain ⟨J6', w1', w2'⟩ := s_write hB' c5' (by rw [List.length_append]; omega) (-18)
            simp (disch := omega) only [↓ce_49 hB', rf_49 hB', ↓nn_38, ↓nn_51, p_bs, p_rq0, p_rq1, p_rz0, p_rz1, p_us, p_un, p_uj, ↓reduceIte, t_nx, w1']
            refine ⟨J6', rfl, ?_⟩
            rw [List.append_assoc] at w2'
            exact w2'
          | some w' =>
            obtain ⟨p1', p2', p3'⟩ := t_paB hp3'
            have hnw' : ¬ Int32.ofNat w' = -1 := p_of1 w' (by omega)
            simp only [t_nxS, hnw', ↓reduceIte]
            exact s_cl84 hB' hS' hT' (some (c', v')) c5' hU4' (by show cs'.length + c'.length + 2 ≤ _; omega) ⟨by omega, k4', fun ρ hρ => ⟨(k5' ρ hρ).1, (k5' ρ hρ).2.2⟩⟩
theorem t_ccP (p' q' : Nat) (cl' : t_Cl) : (t_cc p' cl').length = (t_cc q' cl').length := by rw [t_ccL, t_ccL]
theorem s_readLaw (hB' : p_B X') (hS' : p_S I') (hT' : t_TP β n' 0 I') :
    (∃ x' J'', t_law β n' 241 0 [] = .inl x' ∧ F_X5_readLaw 49 (I', X') = some (0, (J'', X')) ∧ t_LX I' x' J'' ∧ x' ≤ n') ∨
    (∃ x' cls' J'', t_law β n' 241 0 [] = .inr cls' ∧ F_X5_readLaw 49 (I', X') = some (1, (J'', X')) ∧ t_LP I' x' (t_lcode cls') J'' ∧ x' ≤ n' ∧ (t_lcode cls').length ≤ x' ∧ cls' ≠ [] ∧ ∀ cl' ∈ cls', t_GC cl') := by
  have hn' := hT'.2.2.2.1
  have hC0' : t_LP I' 0 (t_lcode []) (q_u2 I' 49 2 0) := ⟨fun c' h3' h4' h5' => by rw [p_uc _ _ _ _ _ h4'], fun j' h3' h4' => by rw [p_uc _ _ _ _ _ (by decide)], by rw [p_uc _ _ _ _ _ (by decide)]; exact hT'.2.1, fun j' h3' => by rw [p_uj _ _ _ _ _ h3'], by rw [p_us]; rfl, fun j' hj' => absurd hj' (Nat.not_lt_zero j')⟩
  obtain ⟨z', h1', h2'⟩ := p_lp (fun z' => B_X5_readLaw_7 49 z'.1 z'.2)
    (fun i' z' => ∃ J' e1' cls', z' = (Int32.ofNat i', (J', X')) ∧ t_LP I' e1' (t_lcode cls') J' ∧ e1' ≤ n' ∧ (t_lcode cls').length ≤ e1' ∧ (∀ cl' ∈ cls', t_GC cl') ∧ t_law β n' (241 - i') e1' cls' = t_law β n' 241 0 [])
    (fun z' => (∃ x' J', t_law β n' 241 0 [] = .inl x' ∧ (z' = .inl (J', X') ∨ z' = .inr (.inr (.inl (J', X'))) ∨ z' = .inr (.inr (.inr (J', X')))) ∧ t_LX I' x' J' ∧ x' ≤ n') ∨ (∃ x' cls' J', t_law β n' 241 0 [] = .inr cls' ∧ z' = .inr (.inl (J', X')) ∧ t_LP I' x' (t_lcode cls') J' ∧ x' ≤ n' ∧ (t_lcode cls').length ≤ x' ∧ cls' ≠ [] ∧ ∀ cl' ∈ cls', t_GC cl')) 241 (by
      rintro i' z' hi' ⟨J', e1', cls', rfl, j1', j2', j3', j4', j5'⟩
      unfold B_X5_readLaw_7
      by_cases hlt' : i' < 241
      · have hni' : ¬ 240 < i' := by omega
        rw [show 241 - i' = (241 - (i' + 1)) + 1 by omega, t_law] at j5'
        have hr' := s_cclz hB' hS' hT' j1' j2' j3'
        have hg' := t_GZz (β := β) (n' := n') j2'
        simp (disch := omega) only [↓ce_49 hB', rf_49 hB', ↓nn_38, ↓nn_51, p_bs, p_rq0, p_rq1, p_rz0, p_rz1, p_us, p_un, p_uj, ↓reduceIte, p_cm, hni']
        cases hs' : t_clz β n' e1' with
        | inl x' =>
          right
          rw [hs'] at j5' hr' hg'
          obtain ⟨J1', r1', r2'⟩ := hr'
          simp (disch := omega) only [p_bs, p_rq0, p_rq1, p_rz0, p_rz1, p_us, p_un, p_uj, ↓reduceIte, r1']
          exact ⟨_, rfl, .inl ⟨x', J1', j5'.symm, .inl rfl, r2', hg'.2⟩⟩
        | inr z2' =>
          obtain ⟨x', cl'⟩ := z2'
          rw [hs'] at j5' hr' hg'
          simp only at j5'
          obtain ⟨J1', r1', r2'⟩ := hr'
          obtain ⟨g1', g2', g3', g4'⟩ := hg'
          have hcode : t_lcode (cls' ++ [cl']) = t_lcode cls' ++ t_cc (t_lcode cls').length cl' := by
            unfold t_lcode
            rw [List.foldl_append]
            rfl
          rw [← hcode] at r2'
          have hlen : (t_lcode (cls' ++ [cl'])).length ≤ x' := by
            rw [hcode, List.length_append, t_ccP _ 0]
            omega
          have hGC' : ∀ c' ∈ cls' ++ [cl'], t_GC c' := fun c' hc' => by
            rcases List.mem_append.mp hc' with h' | h'
            · exact j4' c' h'
            · rw [List.mem_singleton] at h'; subst h'; exact g4'
          have hne' : cls' ++ [cl'] ≠ [] := by simp
          obtain ⟨J2', b1', b2', -⟩ := s_peek hB' (t_TPl hT' r2' g2')
          have hU' := t_skU β n' x' g2'
          have hL' := t_skL β n' x'
          have c1' := t_LPp r2' b2'
          simp (disch := omega) only [↓ce_49 hB', rf_49 hB', ↓ce_37 hB', rf_37 hB', ↓nn_38, ↓nn_39, ↓nn_51, p_bs, p_rq0, p_rq1, p_rz0, p_rz1, p_us, p_un, p_uj, ↓reduceIte, r1', show ((1 : Int32) = 0) = False from by decide, b1', t_sgN2 hT'.2.2.2.2.2]
          by_cases hx' : t_sk β n' x' < n'
          · rw [if_pos hx'] at j5'
            obtain ⟨J3', b3', b4'⟩ := s_take hB' (t_TPl hT' c1' hU') 59 (by decide)
            rw [t_skk] at b3' b4'
            have b3'' : F_X9_take 37 59 (J2', X') = some (t_b (t_is β n' (t_sk β n' x') 59), (J3', X')) := b3'
            simp (disch := omega) only [↓ce_37 hB', rf_37 hB', ↓nn_39, p_bs, p_rq0, p_rq1, p_rz0, p_rz1, p_us, p_un, p_uj, ↓reduceIte, hx', not_true_eq_false, b3'', t_b0]
            by_cases h59' : β (t_sk β n' x') = 59
            · left
              rw [if_pos h59'] at j5'
              have hy' : t_is β n' (t_sk β n' x') 59 = true := by simp [t_is, hx', h59']
              rw [hy', if_pos rfl] at b4'
              simp only [hy', Bool.true_eq_false, ↓reduceIte, p_ar]
              exact ⟨_, rfl, hlt', J3', _, _, rfl, t_LPp c1' b4', by omega, by omega, hGC', j5'⟩
            · right
              rw [if_neg h59'] at j5'
              have hy' : t_is β n' (t_sk β n' x') 59 = false := by simp [t_is, h59']
              rw [hy', if_neg (by decide)] at b4'
              simp only [hy', ↓reduceIte]
              exact ⟨_, rfl, .inl ⟨_, J3', j5'.symm, .inr (.inl rfl), t_LPx (t_LPp c1' b4'), hU'⟩⟩
          · right
            rw [if_neg hx'] at j5'
            simp only [hx', not_false_eq_true, ↓reduceIte]
            exact ⟨_, rfl, .inr ⟨_, _, J2', j5'.symm, rfl, c1', hU', by omega, hne', hGC'⟩⟩
      · right
        have hi'' : i' = 241 := by omega
        subst hi''
        rw [Nat.sub_self, t_law] at j5'
        simp (disch := omega) only [p_bs, p_rq0, p_rq1, p_rz0, p_rz1, p_us, p_un, p_uj, ↓reduceIte, p_cm, show (240 : Nat) < 241 from by decide]
        exact ⟨_, rfl, .inl ⟨e1', J', j5'.symm, .inr (.inr rfl), t_LPx j1', j2'⟩⟩) 241 0 q_fu (0, (q_u2 I' 49 2 0, X')) (by omega) (by unfold q_fu; omega) ⟨_, 0, [], rfl, hC0', by omega, Nat.zero_le _, (fun cl' hc' => by cases hc'), rfl⟩
  unfold F_X5_readLaw
  simp (disch := omega) only [↓ce_49 hB', rf_49 hB', ↓nn_38, ↓nn_51, p_bs, p_rq0, p_rq1, p_rz0, p_rz1, p_us, p_un, p_uj, ↓reduceIte, h1']
  rcases h2' with ⟨x', J', c1', c2', c3', c4'⟩ | ⟨x', cls', J', c1', rfl, c3'⟩
  · left
    refine ⟨x', J', c1', ?_, c3', c4'⟩
    rcases c2' with rfl | rfl | rfl <;> rfl
  · right
    exact ⟨x', cls', J', c1', rfl, c3'⟩
end PL'
