/-! the worth of a law: its code is run -/
def t_lval (ρ : Nat → Int32) : List t_Cl → Int32
  | [] => 0
  | (none, _, v') :: _ => v' ρ
  | (some (_, cv'), _, v') :: r' => if cv' ρ = 0 then t_lval ρ r' else v' ρ
/-- a law's object: its code, its stack -/
def t_LO (lw' L' : Nat) (X' : p_X) : Prop := X'.2.2[lw']? = some (.inl 4) ∧ X'.2.1 lw' 0 = lw' + 1 + 1 ∧ X'.2.1 lw' 1 = lw' + 2 + 1 ∧ X'.2.2[lw' + 1]? = some (.inr (0, L')) ∧ X'.2.2[lw' + 2]? = some (.inr (0, 32)) ∧ 109 ≤ lw' ∧ L' ≤ 240
def t_SK2 (lw' : Nat) (st' : List Int32) (J' : p_I) : Prop := ∀ i', i' < st'.length → J' (lw' + 2) (st'.length - 1 - i') = st'.getD i' 0
theorem t_SKd {lw' : Nat} {a' : Int32} {s' : List Int32} {J' : p_I} (h' : t_SK2 lw' (a' :: s') J') : J' (lw' + 2) s'.length = a' ∧ t_SK2 lw' s' J' := by
  refine ⟨?_, fun i' hi' => ?_⟩
  · have := h' 0 (Nat.succ_pos _)
    rw [List.length_cons, Nat.add_sub_cancel, Nat.sub_zero] at this
    exact this
  · have := h' (i' + 1) (by rw [List.length_cons]; omega)
    rw [List.length_cons, show s'.length + 1 - 1 - (i' + 1) = s'.length - 1 - i' by omega] at this
    exact this
theorem t_SKu {lw' : Nat} {a' : Int32} {s' : List Int32} {J' : p_I} (h' : t_SK2 lw' s' J') : t_SK2 lw' (a' :: s') (q_u2 J' (lw' + 2) s'.length a') := by
  intro i' hi'
  rw [List.length_cons] at hi' ⊢
  by_cases e' : i' = 0
  · subst e'
    rw [show s'.length + 1 - 1 - 0 = s'.length by omega, p_us]
    rfl
  · obtain ⟨m', rfl⟩ : ∃ m', i' = m' + 1 := ⟨i' - 1, by omega⟩
    rw [show s'.length + 1 - 1 - (m' + 1) = s'.length - 1 - m' by omega, p_uj _ _ _ _ _ (by omega)]
    exact h' m' (by omega)
theorem p_dec1 (n' : Nat) : Int32.ofNat (n' + 1) + (-1) = Int32.ofNat n' := by
  have := p_dec (n' + 1) (by omega)
  rw [Nat.add_sub_cancel] at this
  exact this
theorem p_sub1' (n' : Nat) : Int32.ofNat (n' + 1) - 1 = Int32.ofNat n' := p_sub1 (n' + 1) (by omega)
theorem t_opN (op' : Int32) (h1' : ¬ op' < -6) (h2' : op' < 0) : op' - (-6) = Int32.ofNat (op' - (-6)).toNatClampNeg ∧ (op' - (-6)).toNatClampNeg < 6 := by
  have e6' : (-6 : Int32).toInt = -6 := by decide
  have e0' : (0 : Int32).toInt = 0 := rfl
  rw [Int32.lt_iff_toInt_lt, e6'] at h1'
  rw [Int32.lt_iff_toInt_lt, e0'] at h2'
  have h3' : (op' - (-6)).toInt = op'.toInt + 6 := by rw [p_tsub _ _ (by omega) (by omega), e6']; omega
  have h4' : (op' - (-6)).toNatClampNeg = (op'.toInt + 6).toNat := by rw [Int32.toNatClampNeg, h3']
  refine ⟨?_, by rw [h4']; omega⟩
  apply Int32.toInt_inj.mp
  rw [h4', p_toI _ (by omega), h3']
  omega
section PV'
variable {X' : p_X} {J' : p_I} {lw' : Nat} {code : List Int32} {ρ : Nat → Int32}
theorem s_wop (hB' : p_B X') (hO' : t_LO lw' code.length X') (hc' : ∀ j', j' < code.length → J' (lw' + 1) j' = code.getD j' 0) (hρ : ∀ j', j' < 6 → J' 65 j' = ρ j') {p' : Nat} (hp' : p' < code.length) {st' st'' : List Int32} (hs' : t_SK2 lw' st' J') (hst' : st'.length ≤ 32) (hop' : t_op ρ (code.getD p' 0) st' = some st'') :
    ∃ J'', B_X4_worth_4 lw' 65 (Int32.ofNat st'.length) (Int32.ofNat p') (J', X') = some (.inl (Int32.ofNat st''.length, Int32.ofNat (p' + 1), (J'', X'))) ∧ t_SK2 lw' st'' J'' ∧ st''.length ≤ 32 ∧ (∀ c', c' ≠ lw' + 2 → J'' c' = J' c') := by
  obtain ⟨o1', o2', o3', o4', o5', o6', o7'⟩ := hO'
  have h36' : q_NS ≤ lw' + 2 := by unfold q_NS; omega
  have hcp' := hc' p' hp'
  unfold B_X4_worth_4 J_X4_worth_58_4 J_X4_worth_208_4
  rw [p_gR o1', o2', p_nns, p_al o4' (show (0 : Nat) < 6 by decide), if_pos (by rw [p_lt _ _ (by omega) (by omega)]; exact hp'), p_gR o1', o2', p_nns, p_lI o4' (by omega) _ _ _ hp', hcp']
  generalize code.getD p' 0 = op' at *
  unfold t_op at hop'
  by_cases hx' : op' = -18 ∨ op' = -17
  · rw [if_pos hx'] at hop'; cases hop'
  · rw [if_neg hx'] at hop'
    have hx1' : ¬ op' = -18 := fun h' => hx' (.inl h')
    have hx2' : ¬ op' = -17 := fun h' => hx' (.inr h')
    by_cases h6' : op' < -6
    · rw [if_pos h6'] at hop'
      by_cases h16' : op' = -16
      · rw [if_pos h16'] at hop'
        cases st' with
        | nil => cases hop'
        | cons a' s' =>
          cases hop'
          obtain ⟨s1', s2'⟩ := t_SKd hs'
          have hl1' : ¬ s'.length + 1 < 1 := by omega
          rw [List.length_cons] at hst' ⊢
          simp (disch := omega) only [h6', hx1', h16', ↓reduceIte, p_cm, hl1', ↓p_gR o1', o3', ↓p_nns, p_sub1', p_lI o5' (by decide), s1', p_tI o5' (by decide) h36', p_ar, show ((-16 : Int32) = -18) = False from by decide, show ((-16 : Int32) < -6) = True from by decide]
          exact ⟨_, rfl, t_SKu s2', by rw [List.length_cons]; exact hst', fun c' hc' => p_uc _ _ _ _ _ hc'⟩
      · rw [if_neg h16'] at hop'
        cases st' with
        | nil => cases hop'
        | cons b' s' =>
          cases s' with
          | nil => cases hop'
          | cons a' s' =>
            cases hop'
            obtain ⟨s1', s2'⟩ := t_SKd hs'
            obtain ⟨s3', s4'⟩ := t_SKd s2'
            rw [List.length_cons] at s1'
            have hl1' : ¬ s'.length + 1 + 1 < 1 := by omega
            have hl2' : ¬ s'.length + 1 + 1 < 2 := by omega
            rw [List.length_cons, List.length_cons] at hst' ⊢
            simp (disch := omega) only [h6', hx1', hx2', h16', ↓reduceIte, p_cm, hl1', hl2', ↓p_gR o1', o3', ↓p_nns, p_dec1, p_sub1', p_lI o5' (by decide), s1', s3', s_joined, p_bs, p_tI o5' (by decide) h36', p_ar]
            exact ⟨_, rfl, t_SKu s4', by rw [List.length_cons]; omega, fun c' hc' => p_uc _ _ _ _ _ hc'⟩
    · rw [if_neg h6'] at hop'
      by_cases h32' : st'.length < 32
      · rw [if_pos h32'] at hop'
        cases hop'
        have hlt32' : (Int32.ofNat st'.length < 32) = (st'.length < 32) := p_lt st'.length 32 (by omega) (by decide)
        by_cases h0' : op' < 0
        · obtain ⟨n1', n2'⟩ := t_opN op' h6' h0'
          generalize hk' : (op' - (-6)).toNatClampNeg = k' at n1' n2' ⊢
          rw [if_pos h0']
          simp (disch := omega) only [h6', h0', ↓reduceIte, hlt32', h32', ↓p_gR o1', o3', ↓p_nns, n1', ↓ce_65 hB', hρ k' n2', p_tI o5' (by decide) h36', p_ar]
          exact ⟨_, rfl, t_SKu hs', by rw [List.length_cons]; omega, fun c' hc' => p_uc _ _ _ _ _ hc'⟩
        · rw [if_neg h0']
          simp (disch := omega) only [h6', h0', ↓reduceIte, hlt32', h32', ↓p_gR o1', o3', ↓p_nns, p_tI o5' (by decide) h36', p_ar]
          exact ⟨_, rfl, t_SKu hs', by rw [List.length_cons]; omega, fun c' hc' => p_uc _ _ _ _ _ hc'⟩
      · rw [if_neg h32'] at hop'; cases hop'
theorem s_wrun (hB' : p_B X') (hO' : t_LO lw' code.length X') : ∀ (c' : List Int32) (J' : p_I) (p' : Nat) (st' st'' : List Int32), (∀ j', j' < code.length → J' (lw' + 1) j' = code.getD j' 0) → (∀ j', j' < 6 → J' 65 j' = ρ j') → p' + c'.length ≤ code.length → (∀ j', j' < c'.length → code.getD (p' + j') 0 = c'.getD j' 0) → t_SK2 lw' st' J' → st'.length ≤ 32 → t_run ρ c' st' = some st'' →
    ∃ J'', (∀ f', q_lp (fun z' => B_X4_worth_4 lw' 65 z'.1 z'.2.1 z'.2.2) (f' + c'.length) (Int32.ofNat st'.length, Int32.ofNat p', (J', X')) = q_lp (fun z' => B_X4_worth_4 lw' 65 z'.1 z'.2.1 z'.2.2) f' (Int32.ofNat st''.length, Int32.ofNat (p' + c'.length), (J'', X'))) ∧ t_SK2 lw' st'' J'' ∧ st''.length ≤ 32 ∧ (∀ x', x' ≠ lw' + 2 → J'' x' = J' x') := by
  intro c'
  induction c' with
  | nil =>
    intro J' p' st' st'' hc' hρ hp' hcd' hs' hst' hr'
    cases hr'
    exact ⟨J', fun f' => rfl, hs', hst', fun _ _ => rfl⟩
  | cons op' c' ih' =>
    intro J' p' st' st'' hc' hρ hp' hcd' hs' hst' hr'
    rw [List.length_cons] at hp'
    have h0' := hcd' 0 (Nat.succ_pos _)
    rw [Nat.add_zero] at h0'
    have hr'' : (t_op ρ op' st').bind (t_run ρ c') = some st'' := hr'
    cases ho' : t_op ρ op' st' with
    | none => rw [ho'] at hr''; cases hr''
    | some s1' =>
      rw [ho'] at hr''
      have hr2' : t_run ρ c' s1' = some st'' := hr''
      have h0'' : code.getD p' 0 = op' := h0'
      obtain ⟨J1', b1', b2', b3', b4'⟩ := s_wop hB' hO' hc' hρ (p' := p') (by omega) hs' hst' (by rw [h0'']; exact ho')
      have ho65' : (65 : Nat) ≠ lw' + 2 := by have := hO'.2.2.2.2.2.1; omega
      obtain ⟨J2', d1', d2', d3', d4'⟩ := ih' J1' (p' + 1) s1' st'' (by rw [b4' _ (by omega)]; exact hc') (by rw [b4' _ ho65']; exact hρ) (by omega) (fun j' hj' => by
        have := hcd' (j' + 1) (by rw [List.length_cons]; omega)
        rw [show p' + (j' + 1) = p' + 1 + j' by omega] at this
        exact this) b2' b3' hr2'
      refine ⟨J2', fun f' => ?_, d2', d3', fun x' hx' => by rw [d4' x' hx', b4' x' hx']⟩
      rw [List.length_cons, ← Nat.add_assoc, p_lpC b1', d1' f', show p' + 1 + c'.length = p' + (c'.length + 1) by omega]
/-- what the loop's end gives -/
noncomputable def t_wp (l0' : Nat) (e36' : (q_Mem) ⊕ ((Int32 × q_Mem) ⊕ ((q_Mem) ⊕ ((q_Mem) ⊕ (q_Mem))))) : Option (Int32 × q_Mem) := match e36' with | .inl M37' => some ((0 : Int32), M37') | .inr (.inl (w38', M39')) => (if 0 < w38' then (q_gR M39' l0' 4 1 (fun c40' => q_nn c40' (fun r41' => (q_lI M39' 0 r41' (w38' - (1 : Int32)) (fun v42' => some (v42', M39')))))) else some ((0 : Int32), M39')) | .inr (.inr (.inl M43')) => some ((0 : Int32), M43') | .inr (.inr (.inr (.inl M44'))) => some ((0 : Int32), M44') | .inr (.inr (.inr (.inr M45'))) => some ((0 : Int32), M45')
theorem s_wstop (hO' : t_LO lw' code.length X') (hc' : ∀ j', j' < code.length → J' (lw' + 1) j' = code.getD j' 0) {p' : Nat} (hp' : p' < code.length) (hop' : code.getD p' 0 = -18) {v' : Int32} (hs' : t_SK2 lw' [v'] J') (f' : Nat) : (q_lp (fun z' => B_X4_worth_4 lw' 65 z'.1 z'.2.1 z'.2.2) (f' + 1) (Int32.ofNat 1, Int32.ofNat p', (J', X'))).bind (t_wp lw') = some (v', (J', X')) := by
  obtain ⟨o1', o2', o3', o4', o5', o6', o7'⟩ := hO'
  have hcp' := hc' p' hp'
  rw [hop'] at hcp'
  have hb' : B_X4_worth_4 lw' 65 (Int32.ofNat 1) (Int32.ofNat p') (J', X') = some (.inr (.inr (.inl (Int32.ofNat 1, (J', X'))))) := by
    unfold B_X4_worth_4
    rw [p_gR o1', o2', p_nns, p_al o4' (show (0 : Nat) < 6 by decide), if_pos (by rw [p_lt _ _ (by omega) (by omega)]; exact hp'), p_gR o1', o2', p_nns, p_lI o4' (by omega) _ _ _ hp', hcp']
    rw [if_pos (show (-18 : Int32) < -6 by decide), if_pos rfl]
  rw [p_lpE (e' := .inr (.inl (Int32.ofNat 1, (J', X')))) hb']
  simp only [p_bs]
  unfold t_wp
  have s1' := (t_SKd hs').1
  rw [List.length_nil] at s1'
  have h01' : (0 : Int32) < Int32.ofNat 1 := by decide
  have he' : Int32.ofNat 1 - 1 = Int32.ofNat 0 := by decide
  simp (disch := omega) only [h01', ↓reduceIte, p_gR o1', o3', p_nns, he', p_lI o5' (by decide), s1']
theorem t_gdA (A' B' : List Int32) (j' : Nat) (h' : j' < B'.length) : (A' ++ B').getD (A'.length + j') 0 = B'.getD j' 0 := by
  rw [List.getD_eq_getElem?_getD, List.getD_eq_getElem?_getD, List.getElem?_append_right (by omega), Nat.add_sub_cancel_left]
theorem t_gdB (A' B' : List Int32) (j' : Nat) (h' : j' < A'.length) : (A' ++ B').getD j' 0 = A'.getD j' 0 := by
  rw [List.getD_eq_getElem?_getD, List.getD_eq_getElem?_getD, List.getElem?_append_left h']
theorem s_wlaw (hB' : p_B X') (hO' : t_LO lw' code.length X') (hρb : t_Lb ρ) : ∀ (rest pre' : List t_Cl) (J' : p_I), code = (pre' ++ rest).foldl t_lcA [] → (∀ cl' ∈ rest, t_GC cl') → (∀ j', j' < code.length → J' (lw' + 1) j' = code.getD j' 0) → (∀ j', j' < 6 → J' 65 j' = ρ j') →
    ∃ J'', (∀ f', code.length < f' + (t_lcode pre').length → (q_lp (fun z' => B_X4_worth_4 lw' 65 z'.1 z'.2.1 z'.2.2) f' (Int32.ofNat 0, Int32.ofNat (t_lcode pre').length, (J', X'))).bind (t_wp lw') = some (t_lval ρ rest, (J'', X'))) ∧ (∀ x', x' ≠ lw' + 2 → J'' x' = J' x') := by
  intro rest
  induction rest with
  | nil =>
    intro pre' J' hcode hG' hc' hρ
    rw [List.append_nil] at hcode
    have hlen : (t_lcode pre').length = code.length := by rw [hcode]; rfl
    refine ⟨J', fun f' hf' => ?_, fun _ _ => rfl⟩
    obtain ⟨o1', o2', o3', o4', o5', o6', o7'⟩ := hO'
    obtain ⟨f', rfl⟩ : ∃ g', f' = g' + 1 := ⟨f' - 1, by omega⟩
    have hb' : B_X4_worth_4 lw' 65 (Int32.ofNat 0) (Int32.ofNat (t_lcode pre').length) (J', X') = some (.inr (.inr (.inr (.inr (.inr (J', X')))))) := by
      rw [hlen]
      unfold B_X4_worth_4
      rw [p_gR o1', o2', p_nns, p_al o4' (show (0 : Nat) < 6 by decide), if_neg (by rw [p_lt _ _ (by omega) (by omega)]; exact Nat.lt_irrefl _)]
    rw [p_lpE (e' := .inr (.inr (.inr (.inr (J', X'))))) hb']
    rfl
  | cons cl' rest ih' =>
    intro pre' J' hcode hG' hc' hρ
    have ho65' : (65 : Nat) ≠ lw' + 2 := by have := hO'.2.2.2.2.2.1; omega
    have hcode2 : code = ((pre' ++ [cl']) ++ rest).foldl t_lcA [] := by rw [hcode, List.append_assoc]; rfl
    have hpc' : t_lcode (pre' ++ [cl']) = t_lcode pre' ++ t_cc (t_lcode pre').length cl' := by
      unfold t_lcode
      rw [List.foldl_append]
      rfl
    have hsuf : ∃ Z', code = t_lcode (pre' ++ [cl']) ++ Z' := by
      have hgen : ∀ (l' : List t_Cl) (A' : List Int32), ∃ Z', l'.foldl t_lcA A' = A' ++ Z' := by
        intro l'
        induction l' with
        | nil => intro A'; exact ⟨[], by rw [List.append_nil]; rfl⟩
        | cons c' l' ihl' =>
          intro A'
          obtain ⟨Z', hZ'⟩ := ihl' (t_lcA A' c')
          refine ⟨t_cc A'.length c' ++ Z', ?_⟩
          show l'.foldl t_lcA (t_lcA A' c') = _
          rw [hZ']
          unfold t_lcA
          rw [List.append_assoc]
      obtain ⟨Z', hZ'⟩ := hgen rest (t_lcode (pre' ++ [cl']))
      refine ⟨Z', ?_⟩
      rw [hcode2, List.foldl_append]
      exact hZ'
    obtain ⟨Z', hZ'⟩ := hsuf
    rw [hpc', List.append_assoc] at hZ'
    generalize hP' : t_lcode pre' = P' at *
    have hG0' := hG' cl' List.mem_cons_self
    have hGr' : ∀ c' ∈ rest, t_GC c' := fun c' h' => hG' c' (List.mem_cons_of_mem _ h')
    have hat' : ∀ j', j' < (t_cc P'.length cl').length → code.getD (P'.length + j') 0 = (t_cc P'.length cl').getD j' 0 := fun j' hj' => by
      rw [hZ', t_gdA _ _ _ (by rw [List.length_append]; omega), t_gdB _ _ _ hj']
    have hle' : P'.length + (t_cc P'.length cl').length ≤ code.length := by rw [hZ', List.length_append, List.length_append]; omega
    obtain ⟨b', c', v'⟩ := cl'
    have hL240 := hO'.2.2.2.2.2.2
    have hs0' : t_SK2 lw' [] J' := fun i' hi' => absurd hi' (Nat.not_lt_zero i')
    cases b' with
    | none =>
      have hcc' : t_cc P'.length (none, c', v') = c' ++ [-18] := rfl
      rw [hcc', List.length_append] at hle'
      rw [hcc'] at hat'
      have hle' : P'.length + (c'.length + 1) ≤ code.length := hle'
      obtain ⟨J1', d1', d2', d3', d4'⟩ := s_wrun (ρ := ρ) hB' hO' c' J' P'.length [] [v' ρ] hc' hρ (by omega) (fun j' hj' => by rw [hat' j' (by rw [List.length_append]; omega), t_gdB _ _ _ hj']) hs0' (by decide) (hG0'.2 ρ hρb [] (by decide))
      refine ⟨J1', fun f' hf' => ?_, d4'⟩
      obtain ⟨f', rfl⟩ : ∃ g', f' = (g' + 1) + c'.length := ⟨f' - c'.length - 1, by omega⟩
      have d1'' := d1' (f' + 1)
      rw [List.length_nil] at d1''
      rw [d1'']
      refine s_wstop hO' (by rw [d4' _ (by omega)]; exact hc') (by omega) ?_ d2' f'
      rw [hat' c'.length (by rw [List.length_append]; show c'.length < c'.length + 1; omega)]
      exact t_gdS c' [] (-18)
    | some z' =>
      obtain ⟨cc', cv'⟩ := z'
      have hcc' : t_cc P'.length (some (cc', cv'), c', v') = cc' ++ [-17, Int32.ofNat (P'.length + (cc'.length + 2 + c'.length + 1))] ++ c' ++ [-18] := rfl
      have hlen : (t_cc P'.length (some (cc', cv'), c', v')).length = cc'.length + 2 + c'.length + 1 := t_ccL _ _
      rw [hlen] at hle'
      rw [hcc'] at hat'
      have hlen' : (cc' ++ [-17, Int32.ofNat (P'.length + (cc'.length + 2 + c'.length + 1))] ++ c' ++ [-18]).length = cc'.length + 2 + c'.length + 1 := by rw [← hcc']; exact hlen
      rw [hlen'] at hat'
      generalize hT' : P'.length + (cc'.length + 2 + c'.length + 1) = T' at *
      obtain ⟨hcv', hrun⟩ := hG0'.1 ρ hρb
      obtain ⟨J1', d1', d2', d3', d4'⟩ := s_wrun (ρ := ρ) hB' hO' cc' J' P'.length [] [cv' ρ] hc' hρ (by omega) (fun j' hj' => by
        rw [hat' j' (by omega), List.append_assoc, List.append_assoc, t_gdB _ _ _ hj']) hs0' (by decide) (hrun [] (by decide))
      have hc1' : ∀ j', j' < code.length → J1' (lw' + 1) j' = code.getD j' 0 := by rw [d4' _ (by omega)]; exact hc'
      have hskip : code.getD (P'.length + cc'.length) 0 = -17 := by
        rw [hat' cc'.length (by omega), List.append_assoc, List.append_assoc]
        exact t_gdS cc' _ (-17)
      have htgt : code.getD (P'.length + cc'.length + 1) 0 = Int32.ofNat T' := by
        rw [Nat.add_assoc, hat' (cc'.length + 1) (by omega), List.append_assoc, List.append_assoc]
        have := t_gdA cc' ([-17, Int32.ofNat T'] ++ (c' ++ [-18])) 1 (by rw [List.length_append]; show 1 < 2 + _; omega)
        rw [this]
        rfl
      have hO'' := hO'
      obtain ⟨o1', o2', o3', o4', o5', o6', o7'⟩ := hO''
      have s1' := (t_SKd d2').1
      rw [List.length_nil] at s1'
      have hcs' := hc1' (P'.length + cc'.length) (by omega)
      rw [hskip] at hcs'
      have hct' := hc1' (P'.length + cc'.length + 1) (by omega)
      rw [htgt] at hct'
      have hp1' : P'.length + cc'.length < code.length := by omega
      have hp2' : P'.length + cc'.length + 1 < code.length := by omega
      have hmx' : q_mx (Int32.ofNat (P'.length + cc'.length + 1)) (Int32.ofNat T' - 1) = Int32.ofNat (T' - 1) := by
        rw [p_sub1 T' (by omega)]
        unfold q_mx
        by_cases hlt' : P'.length + cc'.length + 1 < T' - 1
        · rw [if_pos (by rw [p_lt _ _ (by omega) (by omega)]; exact hlt')]
        · rw [if_neg (by rw [p_lt _ _ (by omega) (by omega)]; exact hlt')]; congr 1; omega
      by_cases h0' : cv' ρ = 0
      · have hb' : B_X4_worth_4 lw' 65 (Int32.ofNat 1) (Int32.ofNat (P'.length + cc'.length)) (J1', X') = some (.inl (Int32.ofNat 0, Int32.ofNat T', (J1', X'))) := by
          unfold B_X4_worth_4 J_X4_worth_208_4
          rw [p_gR o1', o2', p_nns, p_al o4' (show (0 : Nat) < 6 by decide), if_pos (by rw [p_lt _ _ (by omega) (by omega)]; exact hp1'), p_gR o1', o2', p_nns, p_lI o4' (by omega) _ _ _ hp1', hcs']
          rw [if_pos (show (-17 : Int32) < -6 by decide), if_neg (show ¬ (-17 : Int32) = -18 by decide), if_neg (show ¬ Int32.ofNat 1 < 1 by decide), if_neg (show ¬ (-17 : Int32) = -16 by decide), if_pos rfl, p_gR o1', o3', p_nns, show Int32.ofNat 1 + (-1) = Int32.ofNat 0 by decide, p_lI o5' (by decide) _ _ _ (by decide), s1']
          rw [if_pos h0', p_gR o1', o2', p_nns, p_al o4' (show (0 : Nat) < 6 by decide), show Int32.ofNat (P'.length + cc'.length) + 1 = Int32.ofNat (P'.length + cc'.length + 1) from (Int32.ofNat_add _ 1).symm, if_pos (by rw [p_lt _ _ (by omega) (by omega)]; exact hp2'), p_gR o1', o2', p_nns, p_lI o4' (by omega) _ _ _ hp2', hct', hmx', show Int32.ofNat (T' - 1) + 1 = Int32.ofNat (T' - 1 + 1) from (Int32.ofNat_add _ 1).symm]
          rw [show T' - 1 + 1 = T' by omega]
        have hpl' : (t_lcode (pre' ++ [(some (cc', cv'), c', v')])).length = T' := by
          have : t_lcode (pre' ++ [(some (cc', cv'), c', v')]) = P' ++ t_cc P'.length (some (cc', cv'), c', v') := by
            unfold t_lcode
            rw [List.foldl_append]
            show t_lcA (List.foldl t_lcA [] pre') _ = _
            have hP'' : List.foldl t_lcA [] pre' = P' := hP'
            rw [hP'']
            rfl
          rw [this, List.length_append, hlen]
          omega
        obtain ⟨J2', e1', e2'⟩ := ih' (pre' ++ [(some (cc', cv'), c', v')]) J1' hcode2 hGr' hc1' (by rw [d4' _ ho65']; exact hρ)
        rw [hpl'] at e1'
        refine ⟨J2', fun f' hf' => ?_, fun x' hx' => by rw [e2' x' hx', d4' x' hx']⟩
        obtain ⟨f', rfl⟩ : ∃ g', f' = (g' + 1) + cc'.length := ⟨f' - cc'.length - 1, by omega⟩
        have d1'' := d1' (f' + 1)
        rw [List.length_nil] at d1''
        rw [d1'', show Int32.ofNat [cv' ρ].length = Int32.ofNat 1 from rfl, p_lpC hb', e1' f' (by omega)]
        show _ = some ((if cv' ρ = 0 then t_lval ρ rest else v' ρ), (J2', X'))
        rw [if_pos h0']
      · have hb' : B_X4_worth_4 lw' 65 (Int32.ofNat 1) (Int32.ofNat (P'.length + cc'.length)) (J1', X') = some (.inl (Int32.ofNat 0, Int32.ofNat (P'.length + cc'.length + 1 + 1), (J1', X'))) := by
          unfold B_X4_worth_4 J_X4_worth_208_4
          rw [p_gR o1', o2', p_nns, p_al o4' (show (0 : Nat) < 6 by decide), if_pos (by rw [p_lt _ _ (by omega) (by omega)]; exact hp1'), p_gR o1', o2', p_nns, p_lI o4' (by omega) _ _ _ hp1', hcs']
          rw [if_pos (show (-17 : Int32) < -6 by decide), if_neg (show ¬ (-17 : Int32) = -18 by decide), if_neg (show ¬ Int32.ofNat 1 < 1 by decide), if_neg (show ¬ (-17 : Int32) = -16 by decide), if_pos rfl, p_gR o1', o3', p_nns, show Int32.ofNat 1 + (-1) = Int32.ofNat 0 by decide, p_lI o5' (by decide) _ _ _ (by decide), s1']
          rw [if_neg h0', show Int32.ofNat (P'.length + cc'.length) + 1 = Int32.ofNat (P'.length + cc'.length + 1) from (Int32.ofNat_add _ 1).symm, show Int32.ofNat (P'.length + cc'.length + 1) + 1 = Int32.ofNat (P'.length + cc'.length + 1 + 1) from (Int32.ofNat_add _ 1).symm]
        obtain ⟨J2', g1', g2', g3', g4'⟩ := s_wrun (ρ := ρ) hB' hO' c' J1' (P'.length + cc'.length + 1 + 1) [] [v' ρ] hc1' (by rw [d4' _ ho65']; exact hρ) (by omega) (fun j' hj' => by
          rw [show P'.length + cc'.length + 1 + 1 + j' = P'.length + (cc'.length + 2 + j') by omega, hat' (cc'.length + 2 + j') (by omega)]
          have h1' := t_gdA (cc' ++ [-17, Int32.ofNat T']) (c' ++ [-18]) j' (by rw [List.length_append]; omega)
          rw [List.length_append] at h1'
          have h1' : (cc' ++ [-17, Int32.ofNat T'] ++ (c' ++ [-18])).getD (cc'.length + 2 + j') 0 = (c' ++ [-18]).getD j' 0 := h1'
          rw [List.append_assoc (cc' ++ [-17, Int32.ofNat T'])] 
          rw [h1', t_gdB _ _ _ hj']) (fun i' hi' => absurd hi' (Nat.not_lt_zero i')) (by decide) (hG0'.2 ρ hρb [] (by decide))
        refine ⟨J2', fun f' hf' => ?_, fun x' hx' => by rw [g4' x' hx', d4' x' hx']⟩
        obtain ⟨f', rfl⟩ : ∃ g', f' = ((g' + 1) + c'.length + 1) + cc'.length := ⟨f' - cc'.length - c'.length - 2, by omega⟩
        have d1'' := d1' (f' + 1 + c'.length + 1)
        rw [List.length_nil] at d1''
        have g1'' := g1' (f' + 1)
        rw [List.length_nil] at g1''
        rw [d1'', show Int32.ofNat [cv' ρ].length = Int32.ofNat 1 from rfl, p_lpC hb', g1'']
        show _ = some ((if cv' ρ = 0 then t_lval ρ rest else v' ρ), (J2', X'))
        rw [if_neg h0']
        refine s_wstop hO' (by rw [g4' _ (by omega), d4' _ (by omega)]; exact hc') (by omega) ?_ g2' f'
        rw [show P'.length + cc'.length + 1 + 1 + c'.length = P'.length + (cc'.length + 2 + c'.length) by omega, hat' _ (by omega)]
        have h1' := t_gdS (cc' ++ [-17, Int32.ofNat T'] ++ c') [] (-18)
        rw [List.length_append, List.length_append] at h1'
        exact h1'
theorem s_worth (hB' : p_B X') {cls' : List t_Cl} (hO' : t_LO lw' (t_lcode cls').length X') (hG' : ∀ cl' ∈ cls', t_GC cl') (hρb : t_Lb ρ) (hc' : ∀ j', j' < (t_lcode cls').length → J' (lw' + 1) j' = (t_lcode cls').getD j' 0) (hρ : ∀ j', j' < 6 → J' 65 j' = ρ j') : ∃ J'', F_X4_worth lw' 65 (J', X') = some (t_lval ρ cls', (J'', X')) ∧ ∀ x', x' ≠ lw' + 2 → J'' x' = J' x' := by
  obtain ⟨J'', h1', h2'⟩ := s_wlaw hB' hO' hρb cls' [] J' rfl hG' hc' hρ
  refine ⟨J'', ?_, h2'⟩
  have hL' := hO'.2.2.2.2.2.2
  exact h1' q_fu (by unfold q_fu; omega)
end PV'
