/-! the reference's reader of a LAW, whole -/
/-- the first clause that holds -/
def t_lfo (ρ : Nat → Int32) : List t_Cl → Option Int32
  | [] => none
  | (none, _, v') :: _ => some (v' ρ)
  | (some (_, cv'), _, v') :: r' => if cv' ρ = 0 then t_lfo ρ r' else some (v' ρ)
theorem t_lfV (ρ : Nat → Int32) (cls' : List t_Cl) : (t_lfo ρ cls').getD 0 = t_lval ρ cls' := by
  induction cls' with
  | nil => rfl
  | cons cl' r' ih' =>
    obtain ⟨b', c', v'⟩ := cl'
    cases b' with
    | none => rfl
    | some z' =>
      obtain ⟨cc', cv'⟩ := z'
      show (if cv' ρ = 0 then t_lfo ρ r' else some (v' ρ)).getD 0 = if cv' ρ = 0 then t_lval ρ r' else v' ρ
      by_cases h' : cv' ρ = 0
      · rw [if_pos h', if_pos h']; exact ih'
      · rw [if_neg h', if_neg h']; rfl
theorem t_lfA (ρ : Nat → Int32) (cls' : List t_Cl) (cl' : t_Cl) : t_lfo ρ (cls' ++ [cl']) = match t_lfo ρ cls' with | some v' => some v' | none => t_lfo ρ [cl'] := by
  induction cls' with
  | nil => rfl
  | cons c0' r' ih' =>
    obtain ⟨b', c', v'⟩ := c0'
    cases b' with
    | none => rfl
    | some z' =>
      obtain ⟨cc', cv'⟩ := z'
      show (if cv' ρ = 0 then t_lfo ρ (r' ++ [cl']) else some (v' ρ)) = match (if cv' ρ = 0 then t_lfo ρ r' else some (v' ρ)) with | some v' => some v' | none => t_lfo ρ [cl']
      by_cases h' : cv' ρ = 0
      · rw [if_pos h', if_pos h']; exact ih'
      · rw [if_neg h', if_neg h']
/-- behind a clause: only the place and what is found have changed -/
def t_QF (I' : p_I) (e' : Nat) (J' : p_I) : Prop := (∀ c', c' ≠ 87 → J' c' = I' c') ∧ (∀ j', j' ≠ 10 → j' ≠ 14 → j' ≠ 17 → J' 87 j' = I' 87 j') ∧ J' 87 10 = Int32.ofNat e'
def t_QG (I' : p_I) (e' : Nat) (J' : p_I) : Prop := (∀ c', c' ≠ 87 → J' c' = I' c') ∧ (∀ j', j' ≠ 10 → j' ≠ 11 → j' ≠ 12 → j' ≠ 14 → j' ≠ 17 → J' 87 j' = I' 87 j') ∧ J' 87 11 = Int32.ofNat e'
/-- what was found so far -/
def t_FO (ρ : Nat → Int32) (cls' : List t_Cl) (J' : p_I) : Prop := J' 87 17 = t_b (t_lfo ρ cls').isSome ∧ J' 87 14 = (t_lfo ρ cls').getD 0
theorem t_QFt {I' J' K' : p_I} {e' e'' : Nat} (h' : t_QF I' e' J') (h2' : t_QE J' e'' K') : t_QF I' e'' K' := ⟨fun c' hc' => by rw [h2'.1 c' hc', h'.1 c' hc'], fun j' h3' h4' h5' => by rw [h2'.2.1 j' h3', h'.2.1 j' h3' h4' h5'], h2'.2.2⟩
theorem t_QFF {I' J' K' : p_I} {e' e'' : Nat} (h' : t_QF I' e' J') (h2' : t_QF J' e'' K') : t_QF I' e'' K' := ⟨fun c' hc' => by rw [h2'.1 c' hc', h'.1 c' hc'], fun j' h3' h4' h5' => by rw [h2'.2.1 j' h3' h4' h5', h'.2.1 j' h3' h4' h5'], h2'.2.2⟩
theorem t_QFe {I' J' : p_I} {e' : Nat} (h' : t_QE I' e' J') : t_QF I' e' J' := ⟨h'.1, fun j' h1' _ _ => h'.2.1 j' h1', h'.2.2⟩
theorem t_QGd {I' J' : p_I} {e' : Nat} (h' : t_QD I' e' J') : t_QG I' e' J' := ⟨h'.1, fun j' h1' h2' h3' _ _ => h'.2.1 j' h1' h2' h3', h'.2.2⟩
theorem t_QFG {I' J' K' : p_I} {e' e'' : Nat} (h' : t_QF I' e' J') (h2' : t_QG J' e'' K') : t_QG I' e'' K' := ⟨fun c' hc' => by rw [h2'.1 c' hc', h'.1 c' hc'], fun j' h3' h4' h5' h6' h7' => by rw [h2'.2.1 j' h3' h4' h5' h6' h7', h'.2.1 j' h3' h6' h7'], h2'.2.2⟩
theorem t_ENf {β : Nat → Nat} {n' tc' bg' e' e'' d' : Nat} {X' : p_X} {I' J' : p_I} (h' : t_EN β n' tc' bg' X' I' e' d') (hQ' : t_QF I' e'' J') (he' : e'' ≤ n') : t_EN β n' tc' bg' X' J' e'' d' := by
  obtain ⟨⟨a1', a2', a3', a4', a5', a6', a7'⟩, h2', h3', h4', h5'⟩ := h'
  exact ⟨⟨a1', a2', by rw [hQ'.2.1 8 (by decide) (by decide) (by decide)]; exact a3', by rw [hQ'.2.1 9 (by decide) (by decide) (by decide)]; exact a4', a5', by rw [hQ'.1 tc' (by omega)]; exact a6', a7'⟩, hQ'.2.2, he', by rw [hQ'.2.1 11 (by decide) (by decide) (by decide)]; exact h4', by rw [hQ'.2.1 12 (by decide) (by decide) (by decide)]; exact h5'⟩
theorem t_rhf {I' J' : p_I} {e' : Nat} (h' : t_QF I' e' J') : t_rh J' = t_rh I' := by
  funext k'
  unfold t_rh
  rw [h'.1 91 (by decide)]
/-- the outcome of a clause -/
def t_MZ2 (X' : p_X) (I' : p_I) (cls' : List t_Cl) (o' : Option (Unit × q_Mem)) (r' : Nat ⊕ (Nat × t_Cl)) : Prop := match r' with
  | .inl x' => ∃ J'', o' = some ((), (J'', X')) ∧ t_QG I' x' J''
  | .inr (x', cl') => ∃ J'', o' = some ((), (J'', X')) ∧ t_QF I' x' J'' ∧ (t_Lb (t_rh I') → t_FO (t_rh I') (cls' ++ [cl']) J'')
section PL'
variable {X' : p_X} {I' : p_I} {β : Nat → Nat} {n' tc' bg' e' : Nat} {cls' : List t_Cl}
theorem s_m134N (hB' : p_B X') (h' : ¬ I' 87 11 = -1) (l1' l2' l3' : Int32) : J_X12_clause_134 87 l1' l2' l3' (I', X') = some ((), (I', X')) := by
  unfold J_X12_clause_134
  simp (disch := omega) only [↓ce_87 hB', rf_87 hB', ↓nn_31, ↓nn_33, ↓nn_89, ↓nn_90, ↓nn_91, ↓nn_92, ↓nn_93, ↓nn_94, ↓nn_95, ↓nn_96, ↓nn_97, ↓nn_98, ↓nn_99, ↓nn_100, ↓nn_101, ↓nn_102, ↓nn_103, ↓nn_104, ↓nn_105, ↓nn_106, ↓nn_107, ↓nn_108, p_bs, p_rq0, p_rq1, p_rz0, p_rz1, p_us, p_un, p_uj, ↓reduceIte, h']
theorem s_m134 (hB' : p_B X') {J' : p_I} {x' : Nat} (h11' : I' 87 11 = -1) (h13' : I' 87 13 = 121) (hF' : t_Lb (t_rh I') → t_FO (t_rh I') cls' I') (hQ' : t_QE I' x' J') (cl' : t_Cl) (is' : Bool) (v' : Int32) (h1' : t_Lb (t_rh I') → t_lfo (t_rh I') [cl'] = if is' = true then some v' else none) : ∃ J'', J_X12_clause_134 87 (Int32.ofNat 121) (t_b is') v' (J', X') = some ((), (J'', X')) ∧ t_QF I' x' J'' ∧ (t_Lb (t_rh I') → t_FO (t_rh I') (cls' ++ [cl']) J'') := by
  have g11' : J' 87 11 = -1 := by rw [hQ'.2.1 11 (by decide)]; exact h11'
  have g13' : J' 87 13 = 121 := by rw [hQ'.2.1 13 (by decide)]; exact h13'
  have g17' : J' 87 17 = I' 87 17 := hQ'.2.1 17 (by decide)
  have g14' : J' 87 14 = I' 87 14 := hQ'.2.1 14 (by decide)
  unfold J_X12_clause_134
  simp (disch := omega) only [↓ce_87 hB', rf_87 hB', ↓nn_31, ↓nn_33, ↓nn_89, ↓nn_90, ↓nn_91, ↓nn_92, ↓nn_93, ↓nn_94, ↓nn_95, ↓nn_96, ↓nn_97, ↓nn_98, ↓nn_99, ↓nn_100, ↓nn_101, ↓nn_102, ↓nn_103, ↓nn_104, ↓nn_105, ↓nn_106, ↓nn_107, ↓nn_108, p_bs, p_rq0, p_rq1, p_rz0, p_rz1, p_us, p_un, p_uj, ↓reduceIte, g11', g13', show (Int32.ofNat 121 = 121) = True from by decide, t_b0]
  by_cases h17' : J' 87 17 = 0
  · cases is'
    · simp only [h17', ↓reduceIte]
      refine ⟨J', rfl, t_QFe hQ', fun hb' => ?_⟩
      obtain ⟨f1', f2'⟩ := hF' hb'
      unfold t_FO
      rw [t_lfA, h1' hb', g17', g14', f1', f2']
      cases t_lfo (t_rh I') cls' with
      | none => exact ⟨rfl, rfl⟩
      | some y' => exact ⟨rfl, rfl⟩
    · simp only [h17', Bool.true_eq_false, ↓reduceIte]
      refine ⟨_, rfl, ⟨fun c' hc' => by rw [p_uc _ _ _ _ _ hc', p_uc _ _ _ _ _ hc']; exact hQ'.1 c' hc', fun j' h3' h4' h5' => by rw [p_uj _ _ _ _ _ h4', p_uj _ _ _ _ _ h5']; exact hQ'.2.1 j' h3', by rw [p_uj _ _ _ _ _ (by decide), p_uj _ _ _ _ _ (by decide)]; exact hQ'.2.2⟩, fun hb' => ?_⟩
      obtain ⟨f1', f2'⟩ := hF' hb'
      have hn' : t_lfo (t_rh I') cls' = none := by
        rw [g17', f1'] at h17'
        cases hx' : t_lfo (t_rh I') cls' with
        | none => rfl
        | some y' => rw [hx'] at h17'; exact absurd h17' (show ¬ t_b true = 0 by decide)
      unfold t_FO
      rw [t_lfA, h1' hb', hn']
      simp only [↓reduceIte]
      refine ⟨?_, ?_⟩
      · rw [p_uj _ _ _ _ _ (by decide), p_us]; rfl
      · rw [p_us]; rfl
  · simp only [h17', ↓reduceIte]
    refine ⟨J', rfl, t_QFe hQ', fun hb' => ?_⟩
    obtain ⟨f1', f2'⟩ := hF' hb'
    unfold t_FO
    rw [t_lfA, g17', g14', f1', f2']
    cases hx' : t_lfo (t_rh I') cls' with
    | none => rw [g17', f1', hx'] at h17'; exact absurd rfl h17'
    | some y' => exact ⟨rfl, rfl⟩
theorem t_MZt {J' : p_I} {o' : Option (Unit × q_Mem)} {r' : Nat ⊕ (Nat × t_Cl)} (h' : t_QE I' e' J') (hr' : t_MZ2 X' J' cls' o' r') : t_MZ2 X' I' cls' o' r' := by
  cases r' with
  | inl x' =>
    obtain ⟨K', h1', h2'⟩ := hr'
    exact ⟨K', h1', t_QFG (t_QFe h') h2'⟩
  | inr z' =>
    obtain ⟨x', cl'⟩ := z'
    obtain ⟨K', h1', h2', h3'⟩ := hr'
    rw [t_rhq h'] at h3'
    exact ⟨K', h1', t_QFF (t_QFe h') h2', h3'⟩
/-- behind the condition -/
theorem s_mclr (hB' : p_B X') (hS' : p_S I') (hE' : t_EN β n' tc' bg' X' I' e' 0) (h13' : I' 87 13 = 121) (hF' : t_Lb (t_rh I') → t_FO (t_rh I') cls' I') (cc' : List Int32) (cv' : t_V) (is' : Bool) (his' : t_Lb (t_rh I') → t_b is' = cv' (t_rh I')) : t_MZ2 X' I' cls' (q_ob (I', X') 87 12 ((F_X12_takes 87 (63 : Int32) (I', X')).bind (fun x' => if x'.1 = 0 then some ((), x'.2) else q_ob x'.2 87 12 ((R_X12_atom 60 1 87 x'.2).bind (fun y' => J_X12_clause_134 87 (Int32.ofNat 121) (t_b is') y'.1 y'.2))))) (t_clr β n' e' cc' cv') := by
  obtain ⟨hR', he', hen', h11', h12'⟩ := id hE'
  have hn' := hR'.2.2.2.2.1
  have hL' := t_skL β n' e'
  have hU' := t_skU β n' e' hen'
  unfold t_clr
  rw [p_ob (sh_87 hB')]
  rcases s_takes hB' hR' he' hen' h11' 63 (by decide) with ⟨u1', J1', u2', u3'⟩ | ⟨u1', J1', u2', u3'⟩
  · have u2'' : F_X12_takes 87 63 (I', X') = some (0, (J1', X')) := u2'
    rw [u2'', u1']
    simp only [p_bs, ↓reduceIte, Bool.false_eq_true]
    exact ⟨J1', rfl, t_QGd (t_QDx u3')⟩
  · have u2'' : F_X12_takes 87 63 (I', X') = some (1, (J1', X')) := u2'
    have hlt' := t_is1 u1'
    rw [u2'', u1']
    simp only [p_bs, show ((1 : Int32) = 0) = False from by decide, ↓reduceIte, p_ob (sh_87 hB')]
    have hS1' : p_S J1' := fun k' hk' => by rw [u3'.1 k' (by omega)]; exact hS' k' hk'
    have hr' := s_mRsum hB' 6 (by omega) 60 (by omega) J1' (t_sk β n' e' + 1) hS1' (t_ENq hE' u3' (by omega))
    have hg' := t_GRsum (β := β) (n' := n') 6 (t_sk β n' e' + 1) (by omega)
    cases hs' : t_sum β n' 6 (t_sk β n' e' + 1) with
    | inl y' =>
      rw [hs'] at hr' hg'
      obtain ⟨w', J2', r1', r2'⟩ := hr'
      have hxn' : ¬ J2' 87 11 = -1 := by rw [r2'.2.2]; exact p_of1 y' (by have := hg'.2; omega)
      rw [r1']
      simp only [p_bs, s_m134N hB' hxn']
      exact ⟨J2', rfl, t_QGd (t_QDt u3' r2')⟩
    | inr z' =>
      obtain ⟨y', c', v'⟩ := z'
      rw [hs'] at hr' hg'
      obtain ⟨w', J2', r1', r2', r3'⟩ := hr'
      rw [t_rhq u3'] at r2'
      rw [r1']
      simp only [p_bs]
      exact s_m134 hB' h11' h13' hF' (t_QEt u3' r3') _ is' w' (fun hb' => by
        show (if cv' (t_rh I') = 0 then none else some (v' (t_rh I'))) = _
        rw [← his' hb', ← r2' hb']
        cases is' <;> rfl)
theorem s_mclause64 (hB' : p_B X') (hS' : p_S I') (hE' : t_EN β n' tc' bg' X' I' e' 0) (h13' : I' 87 13 = 121) (hF' : t_Lb (t_rh I') → t_FO (t_rh I') cls' I') : t_MZ2 X' I' cls' (J_X12_clause_64 87 (Int32.ofNat 121) (I', X')) (match t_cndO β n' (t_unt β n' 6) none e' with
        | .inl x' => .inl x'
        | .inr (x', cc', cv') => t_clr β n' x' cc' cv') := by
  have hn' := hE'.1.2.2.2.2.1
  have hr' : t_MRb X' I' (R_X12_condition 60 0 87 0 0 (I', X')) (t_cndO β n' (t_unt β n' 6) none e') := s_mRcond hB' none 0 I' e' hS' hE' trivial (fun c' v' h' => by cases h')
  have hg' := t_GRcnd (β := β) (n' := n') 6 none e' hE'.2.2.1 trivial
  unfold J_X12_clause_64
  rw [p_ob (sh_87 hB')]
  cases hs' : t_cndO β n' (t_unt β n' 6) none e' with
  | inl x' =>
    rw [hs'] at hr' hg'
    obtain ⟨b', J1', r1', r2'⟩ := hr'
    have hxn' : ¬ J1' 87 11 = -1 := by rw [r2'.2.2]; exact p_of1 x' (by have := hg'.2; omega)
    rw [r1']
    simp only [p_bs, p_ob (sh_87 hB'), s_takesN hB' hxn', ↓reduceIte]
    exact ⟨J1', rfl, t_QGd r2'⟩
  | inr z' =>
    obtain ⟨x', cc', cv'⟩ := z'
    rw [hs'] at hr' hg'
    obtain ⟨b', J1', r1', r2', r3'⟩ := hr'
    have hS1' : p_S J1' := fun k' hk' => by rw [r3'.1 k' (by omega)]; exact hS' k' hk'
    have h13'' : J1' 87 13 = 121 := by rw [r3'.2.1 13 (by decide)]; exact h13'
    have hF'' : t_Lb (t_rh J1') → t_FO (t_rh J1') cls' J1' := by
      rw [t_rhq r3']
      intro hb'
      unfold t_FO
      rw [r3'.2.1 17 (by decide), r3'.2.1 14 (by decide)]
      exact hF' hb'
    have := s_mclr hB' hS1' (t_ENq hE' r3' hg'.2.1) h13'' hF'' cc' cv' b' (by rw [t_rhq r3']; exact r2')
    rw [r1']
    simp only [p_bs]
    exact t_MZt r3' this
theorem s_mclz (hB' : p_B X') (hS' : p_S I') (hE' : t_EN β n' tc' bg' X' I' e' 0) (h13' : I' 87 13 = 121) (hF' : t_Lb (t_rh I') → t_FO (t_rh I') cls' I') : t_MZ2 X' I' cls' (F_X12_clause 87 (I', X')) (t_clz β n' e') := by
  obtain ⟨hR', he', hen', h11', h12'⟩ := id hE'
  have hn' := hR'.2.2.2.2.1
  have hβ := hR'.2.2.2.2.2.2
  have hL' := t_skL β n' e'
  have hU' := t_skU β n' e' hen'
  have kF' : ∀ {J' : p_I} {x' : Nat}, t_QE I' x' J' → t_Lb (t_rh J') → t_FO (t_rh J') cls' J' := by
    intro J' x' hq'
    rw [t_rhq hq']
    intro hb'
    unfold t_FO
    rw [hq'.2.1 17 (by decide), hq'.2.1 14 (by decide)]
    exact hF' hb'
  have k13' : ∀ {J' : p_I} {x' : Nat}, t_QE I' x' J' → J' 87 13 = 121 := fun hq' => by rw [hq'.2.1 13 (by decide)]; exact h13'
  have kS' : ∀ {J' : p_I} {x' : Nat}, t_QE I' x' J' → p_S J' := fun hq' k' hk' => by rw [hq'.1 k' (by omega)]; exact hS' k' hk'
  obtain ⟨J1', b1', b2'⟩ := s_look hB' hR' he' hen'
  have hE1' := t_ENq hE' b2' hU'
  have hia' := s_isAmong (e' := t_sk β n' e') (t_sh30 hB' (kS' b2')) hβ
  have hF1' := s_fails hB' b2'.2.2 hE1'.2.2.2.1
  have hpy' : (t_pa β n' (t_gl0 [121]) 1 (t_sk β n' e')).isSome = t_is β n' (t_sk β n' e') 121 := by
    unfold t_pa t_ix t_is
    rw [t_ixf, t_ixf]
    by_cases hx' : t_sk β n' e' < n'
    · by_cases hy' : β (t_sk β n' e') = 121
      · simp [hx', hy', t_gl0]
      · have hy'' : ¬ 121 = β (t_sk β n' e') := fun h' => hy' h'.symm
        simp [hx', hy', hy'', t_gl0]
    · simp [hx']
  unfold F_X12_clause t_clz
  simp (maxSteps := 1000000) only [p_ob (sh_87 hB'), b1', hia', hpy', p_bs, t_b0]
  cases h1' : t_is β n' (t_sk β n' e') 121
  · simp (disch := omega) only [↓ce_87 hB', rf_87 hB', ↓nn_31, ↓nn_33, ↓nn_89, ↓nn_90, ↓nn_91, ↓nn_92, ↓nn_93, ↓nn_94, ↓nn_95, ↓nn_96, ↓nn_97, ↓nn_98, ↓nn_99, ↓nn_100, ↓nn_101, ↓nn_102, ↓nn_103, ↓nn_104, ↓nn_105, ↓nn_106, ↓nn_107, ↓nn_108, p_bs, p_rq0, p_rq1, p_rz0, p_rz1, p_us, p_un, p_uj, ↓reduceIte, Bool.false_eq_true, hF1']
    exact ⟨_, rfl, t_QGd (t_QDt b2' (t_QDx (t_QEx (t_QEs b2'.2.2))))⟩
  · have q1' : t_sk β n' e' < n' ∧ β (t_sk β n' e') = 121 := by rw [t_isE]; exact h1'
    have qa' := t_QEu (e'' := t_sk β n' e' + 1) b2'
    have hEa' := t_ENq hE' qa' (by omega)
    have hL2' := t_skL β n' (t_sk β n' e' + 1)
    have hU2' := t_skU β n' (t_sk β n' e' + 1) (by omega)
    rw [t_sgP q1'.1, q1'.2]
    simp (disch := omega) only [↓ce_87 hB', rf_87 hB', ↓nn_31, ↓nn_33, ↓nn_89, ↓nn_90, ↓nn_91, ↓nn_92, ↓nn_93, ↓nn_94, ↓nn_95, ↓nn_96, ↓nn_97, ↓nn_98, ↓nn_99, ↓nn_100, ↓nn_101, ↓nn_102, ↓nn_103, ↓nn_104, ↓nn_105, ↓nn_106, ↓nn_107, ↓nn_108, p_bs, p_rq0, p_rq1, p_rz0, p_rz1, p_us, p_un, p_uj, ↓reduceIte, Bool.true_eq_false, b2'.2.2, p_ar]
    rcases s_takes hB' hEa'.1 hEa'.2.1 hEa'.2.2.1 hEa'.2.2.2.1 58 (by decide) with ⟨u1', J2', u2', u3'⟩ | ⟨u1', J2', u2', u3'⟩
    · have u2'' : F_X12_takes 87 58 (q_u2 J1' 87 10 (Int32.ofNat (t_sk β n' e' + 1)), X') = some (0, (J2', X')) := u2'
      rw [u1']
      simp (disch := omega) only [↓ce_87 hB', rf_87 hB', ↓nn_31, ↓nn_33, ↓nn_89, ↓nn_90, ↓nn_91, ↓nn_92, ↓nn_93, ↓nn_94, ↓nn_95, ↓nn_96, ↓nn_97, ↓nn_98, ↓nn_99, ↓nn_100, ↓nn_101, ↓nn_102, ↓nn_103, ↓nn_104, ↓nn_105, ↓nn_106, ↓nn_107, ↓nn_108, p_bs, p_rq0, p_rq1, p_rz0, p_rz1, p_us, p_un, p_uj, ↓reduceIte, u2'', Bool.false_eq_true]
      exact ⟨J2', rfl, t_QGd (t_QDt qa' (t_QDx u3'))⟩
    · have u2'' : F_X12_takes 87 58 (q_u2 J1' 87 10 (Int32.ofNat (t_sk β n' e' + 1)), X') = some (1, (J2', X')) := u2'
      have q2' := t_is1 u1'
      rw [u1']
      have qb' := t_QEt qa' u3'
      have hEb' := t_ENq hE' qb' (by omega)
      simp (disch := omega) only [↓ce_87 hB', rf_87 hB', ↓nn_31, ↓nn_33, ↓nn_89, ↓nn_90, ↓nn_91, ↓nn_92, ↓nn_93, ↓nn_94, ↓nn_95, ↓nn_96, ↓nn_97, ↓nn_98, ↓nn_99, ↓nn_100, ↓nn_101, ↓nn_102, ↓nn_103, ↓nn_104, ↓nn_105, ↓nn_106, ↓nn_107, ↓nn_108, p_bs, p_rq0, p_rq1, p_rz0, p_rz1, p_us, p_un, p_uj, ↓reduceIte, u2'', show ((1 : Int32) = 0) = False from by decide]
      generalize ha' : t_sk β n' (t_sk β n' e' + 1) + 1 = a' at *
      have hL3' := t_skL β n' a'
      have hU3' := t_skU β n' a' (by omega)
      obtain ⟨J3', b3', b4'⟩ := s_look hB' hEb'.1 hEb'.2.1 (by omega)
      have qc' := t_QEt qb' b4'
      have hEc' := t_ENq hE' qc' hU3'
      have hp2' := t_pa2 (β := β) (n' := n') t_s4 (t_sk β n' a')
      rw [show t_s4 0 = 33 from rfl, show t_s4 1 = 40 from rfl] at hp2'
      rw [show (33 : Int32) = Int32.ofNat 33 from rfl, show (40 : Int32) = Int32.ofNat 40 from rfl]
      simp (disch := omega) only [↓ce_87 hB', rf_87 hB', ↓nn_31, ↓nn_33, ↓nn_89, ↓nn_90, ↓nn_91, ↓nn_92, ↓nn_93, ↓nn_94, ↓nn_95, ↓nn_96, ↓nn_97, ↓nn_98, ↓nn_99, ↓nn_100, ↓nn_101, ↓nn_102, ↓nn_103, ↓nn_104, ↓nn_105, ↓nn_106, ↓nn_107, ↓nn_108, p_bs, p_rq0, p_rq1, p_rz0, p_rz1, p_us, p_un, p_uj, ↓reduceIte, b3', t_sgE2 hβ _ _ (show (33 : Nat) < 256 by decide), t_sgE2 hβ _ _ (show (40 : Nat) < 256 by decide), t_isE]
      have h64' := s_mclause64 hB' (kS' qc') hEc' (k13' qc') (kF' qc')
      by_cases h33' : t_is β n' (t_sk β n' a') 33 = true
      · rw [if_pos h33'] at hp2'
        rw [hp2']
        simp only [h33', ↓reduceIte]
        exact t_MZt qc' h64'
      · rw [if_neg h33'] at hp2'
        by_cases h40' : t_is β n' (t_sk β n' a') 40 = true
        · rw [if_pos h40'] at hp2'
          rw [hp2']
          simp only [h33', h40', ↓reduceIte, Bool.false_eq_true]
          exact t_MZt qc' h64'
        · rw [if_neg h40'] at hp2'
          rw [hp2']
          have hr' := s_mRsum hB' 6 (by omega) 60 (by omega) J3' (t_sk β n' a') (kS' qc') hEc'
          have hg' := t_GRsum (β := β) (n' := n') 6 (t_sk β n' a') hU3'
          simp only [h33', h40', ↓reduceIte, p_ob (sh_87 hB')]
          cases hs' : t_sum β n' 6 (t_sk β n' a') with
          | inl x' =>
            rw [hs'] at hr' hg'
            obtain ⟨w', J4', r1', r2'⟩ := hr'
            have hxn' : ¬ J4' 87 11 = -1 := by rw [r2'.2.2]; exact p_of1 x' (by have := hg'.2; omega)
            simp (disch := omega) only [↓ce_87 hB', rf_87 hB', ↓nn_31, ↓nn_33, ↓nn_89, ↓nn_90, ↓nn_91, ↓nn_92, ↓nn_93, ↓nn_94, ↓nn_95, ↓nn_96, ↓nn_97, ↓nn_98, ↓nn_99, ↓nn_100, ↓nn_101, ↓nn_102, ↓nn_103, ↓nn_104, ↓nn_105, ↓nn_106, ↓nn_107, ↓nn_108, p_bs, p_rq0, p_rq1, p_rz0, p_rz1, p_us, p_un, p_uj, ↓reduceIte, r1', hxn', s_m134N hB' hxn']
            exact ⟨J4', rfl, t_QGd (t_QDt qc' r2')⟩
          | inr z' =>
            obtain ⟨x', c', v'⟩ := z'
            rw [hs'] at hr' hg'
            obtain ⟨w', J4', r1', r2', r3'⟩ := hr'
            obtain ⟨k1', k2', k3', k4', k5'⟩ := hg'
            rw [t_rhq qc'] at r2'
            have qd' := t_QEt qc' r3'
            have hEd' := t_ENq hE' qd' k2'
            have hL4' := t_skL β n' x'
            have hU4' := t_skU β n' x' k2'
            obtain ⟨J5', b5', b6'⟩ := s_look hB' hEd'.1 hEd'.2.1 k2'
            have qe' := t_QEt qd' b6'
            have hEe' := t_ENq hE' qe' hU4'
            have g11' : J4' 87 11 = -1 := hEd'.2.2.2.1
            have hsg' := s_isSign hβ (t_sk β n' x') (J5', X')
            simp (disch := omega) only [↓ce_87 hB', rf_87 hB', ↓nn_31, ↓nn_33, ↓nn_89, ↓nn_90, ↓nn_91, ↓nn_92, ↓nn_93, ↓nn_94, ↓nn_95, ↓nn_96, ↓nn_97, ↓nn_98, ↓nn_99, ↓nn_100, ↓nn_101, ↓nn_102, ↓nn_103, ↓nn_104, ↓nn_105, ↓nn_106, ↓nn_107, ↓nn_108, p_bs, p_rq0, p_rq1, p_rz0, p_rz1, p_us, p_un, p_uj, ↓reduceIte, r1', g11', b5', hsg', t_b0]
            cases hp3' : t_pa β n' t_s3 3 (t_sk β n' x') with
            | none =>
              simp only [Option.isSome_none, ↓reduceIte]
              exact s_m134 hB' h11' h13' hF' qe' (none, c', v') true w' (fun hb' => by
                show some (v' (t_rh I')) = _
                rw [r2' hb']; rfl)
            | some ww' =>
              have hr2' : t_MRb X' J5' (R_X12_condition 60 0 87 1 w' (J5', X')) (t_cndO β n' (t_unt β n' 6) (some (c', v')) (t_sk β n' x')) := s_mRcond hB' (some (c', v')) w' J5' (t_sk β n' x') (kS' qe') hEe' ⟨by omega, k4', fun ρ hρ => ⟨(k5' ρ hρ).1, (k5' ρ hρ).2.2⟩⟩ (fun c'' v'' hcv' hb' => by
                cases hcv'
                rw [t_rhq qe'] at hb' ⊢
                exact r2' hb')
              have hg2' := t_GRcnd (β := β) (n' := n') 6 (some (c', v')) (t_sk β n' x') hU4' ⟨by omega, k4', fun ρ hρ => ⟨(k5' ρ hρ).1, (k5' ρ hρ).2.2⟩⟩
              simp only [Option.isSome_some, Bool.true_eq_false, ↓reduceIte, p_ob (sh_87 hB')]
              cases hs2' : t_cndO β n' (t_unt β n' 6) (some (c', v')) (t_sk β n' x') with
              | inl y' =>
                rw [hs2'] at hr2' hg2'
                obtain ⟨b', J6', m1', m2'⟩ := hr2'
                have hxn' : ¬ J6' 87 11 = -1 := by rw [m2'.2.2]; exact p_of1 y' (by have := hg2'.2; omega)
                simp (disch := omega) only [↓ce_87 hB', rf_87 hB', ↓nn_31, ↓nn_33, ↓nn_89, ↓nn_90, ↓nn_91, ↓nn_92, ↓nn_93, ↓nn_94, ↓nn_95, ↓nn_96, ↓nn_97, ↓nn_98, ↓nn_99, ↓nn_100, ↓nn_101, ↓nn_102, ↓nn_103, ↓nn_104, ↓nn_105, ↓nn_106, ↓nn_107, ↓nn_108, p_bs, p_rq0, p_rq1, p_rz0, p_rz1, p_us, p_un, p_uj, ↓reduceIte, m1', s_takesN hB' hxn']
                exact ⟨J6', rfl, t_QGd (t_QDt qe' m2')⟩
              | inr z' =>
                obtain ⟨y', cc', cv'⟩ := z'
                rw [hs2'] at hr2' hg2'
                obtain ⟨b', J6', m1', m2', m3'⟩ := hr2'
                have qf' := t_QEt qe' m3'
                have hfin := s_mclr hB' (kS' qf') (t_ENq hE' qf' hg2'.2.1) (k13' qf') (kF' qf') cc' cv' b' (by
                  intro hb'
                  have := m2' (by rw [t_rhq qe']; rw [t_rhq qf'] at hb'; exact hb')
                  rw [t_rhq qe'] at this
                  rw [t_rhq qf']
                  exact this)
                simp only [m1', p_bs]
                exact t_MZt qf' hfin
theorem s_goThrough (hB' : p_B X') (hS' : p_S I') {tc' bg' : Nat} (htc' : (tc' = 88 ∧ bg' = 0) ∨ (tc' = 89 ∧ bg' ≤ 720)) (hn' : n' ≤ 240) (hb' : ∀ i', i' < n' → I' tc' (bg' + i') = t_by (β i')) (hβ : ∀ i', i' < n' → β i' < 256) :
    ∃ J', F_X12_goThrough 87 tc' (Int32.ofNat bg') (Int32.ofNat n') (I', X') = some ((), (J', p_T X' (tc' + 1))) ∧ (∀ c', c' ≠ 87 → J' c' = I' c') ∧ (∀ j', ¬ (8 ≤ j' ∧ j' ≤ 14) → j' ≠ 17 → J' 87 j' = I' 87 j') ∧
      ((∃ x', t_law β n' 241 0 [] = .inl x' ∧ J' 87 11 = Int32.ofNat x' ∧ x' ≤ n') ∨ (∃ cls', t_law β n' 241 0 [] = .inr cls' ∧ J' 87 11 = -1 ∧ (t_Lb (t_rh I') → J' 87 14 = t_lval (t_rh I') cls'))) := by
  have hst' := s_starts (I' := I') hB' tc' (Int32.ofNat bg') (Int32.ofNat n')
  unfold F_X12_goThrough
  simp (disch := omega) only [↓ce_87 hB', rf_87 hB', ↓nn_31, ↓nn_33, ↓nn_89, ↓nn_90, ↓nn_91, ↓nn_92, ↓nn_93, ↓nn_94, ↓nn_95, ↓nn_96, ↓nn_97, ↓nn_98, ↓nn_99, ↓nn_100, ↓nn_101, ↓nn_102, ↓nn_103, ↓nn_104, ↓nn_105, ↓nn_106, ↓nn_107, ↓nn_108, p_bs, p_rq0, p_rq1, p_rz0, p_rz1, p_us, p_un, p_uj, ↓reduceIte, hst']
  obtain ⟨f1', f2', f3', f4', f5', f6'⟩ := t_IbF I' (Int32.ofNat bg') (Int32.ofNat n')
  generalize t_Ib I' (Int32.ofNat bg') (Int32.ofNat n') = Ib' at *
  have hB' := p_BT hB' (tc' + 1)
  have hv' : (p_T X' (tc' + 1)).2.1 87 5 = tc' + 1 := p_Tv X' (tc' + 1)
  generalize p_T X' (tc' + 1) = X1' at *
  simp (disch := omega) only [↓ce_87 hB', rf_87 hB', ↓nn_31, ↓nn_33, ↓nn_89, ↓nn_90, ↓nn_91, ↓nn_92, ↓nn_93, ↓nn_94, ↓nn_95, ↓nn_96, ↓nn_97, ↓nn_98, ↓nn_99, ↓nn_100, ↓nn_101, ↓nn_102, ↓nn_103, ↓nn_104, ↓nn_105, ↓nn_106, ↓nn_107, ↓nn_108, p_bs, p_rq0, p_rq1, p_rz0, p_rz1, p_us, p_un, p_uj, ↓reduceIte]
  generalize hI2' : q_u2 (q_u2 (q_u2 (q_u2 Ib' 87 13 121) 87 12 0) 87 17 0) 87 14 0 = I2'
  have g2' : ∀ c', c' ≠ 87 → I2' c' = I' c' := fun c' hc' => by rw [← hI2']; simp (disch := omega) only [p_uc]; exact f1' c' hc'
  have g2j : ∀ j', ¬ (8 ≤ j' ∧ j' ≤ 14) → j' ≠ 17 → I2' 87 j' = I' 87 j' := fun j' h1' h2' => by
    rw [← hI2']; simp (disch := omega) only [p_uj]; exact f2' j' (by omega)
  have hS2' : p_S I2' := fun k' hk' => by rw [g2' k' (by omega)]; exact hS' k' hk'
  have hrho : t_rh I2' = t_rh I' := by
    funext k'
    unfold t_rh
    rw [g2' 91 (by decide)]
  have hE2' : t_EN β n' tc' bg' X1' I2' 0 0 := by
    refine ⟨⟨hv', htc', ?_, ?_, hn', fun i' hi' => by rw [g2' tc' (by omega)]; exact hb' i' hi', hβ⟩, ?_, by omega, ?_, ?_⟩
    · rw [← hI2']; simp (disch := omega) only [p_uj]; exact f3'
    · rw [← hI2']; simp (disch := omega) only [p_uj]; exact f4'
    · rw [← hI2']; simp (disch := omega) only [p_uj]; exact f5'
    · rw [← hI2']; simp (disch := omega) only [p_uj]; exact f6'
    · rw [← hI2']; simp (disch := omega) only [p_uj, p_us]; rfl
  have h13' : I2' 87 13 = 121 := by rw [← hI2']; simp (disch := omega) only [p_uj, p_us]
  have hF2' : t_Lb (t_rh I2') → t_FO (t_rh I2') [] I2' := fun _ => ⟨by rw [← hI2']; simp (disch := omega) only [p_uj, p_us]; rfl, by rw [← hI2', p_us]; rfl⟩
  have kF' : ∀ {J' : p_I} {x' : Nat}, t_QF I2' x' J' → J' 87 13 = 121 ∧ p_S J' := fun hq' => ⟨by rw [hq'.2.1 13 (by decide) (by decide) (by decide)]; exact h13', fun k' hk' => by rw [hq'.1 k' (by omega)]; exact hS2' k' hk'⟩
  have hr0' := s_mclz hB' hS2' hE2' h13' hF2'
  have hg0' := t_GZz (β := β) (n' := n') (e' := 0) (by omega)
  have hlaw : t_law β n' 241 0 [] = match t_clz β n' 0 with
    | .inl x' => .inl x'
    | .inr (x', cl') => if t_sk β n' x' < n' then (if β (t_sk β n' x') = 59 then t_law β n' 240 (t_sk β n' x' + 1) ([] ++ [cl']) else .inl (t_sk β n' x')) else .inr ([] ++ [cl']) := by
    rw [show (241 : Nat) = 240 + 1 from rfl, t_law]
    rfl
  generalize t_law β n' 241 0 [] = RR' at hlaw ⊢
  have fin' : ∀ (J' : p_I) (R' : Nat ⊕ List t_Cl), RR' = R' → ((∃ x', R' = .inl x' ∧ x' ≤ n' ∧ t_QG I2' x' J') ∨ (∃ x' cls', t_QF I2' x' J' ∧ x' ≤ n' ∧ (t_Lb (t_rh I2') → t_FO (t_rh I2') cls' J') ∧ R' = (if t_sk β n' x' < n' then .inl (t_sk β n' x') else .inr cls'))) →
      ∃ K', (q_gI (J', X1') 87 12 11 (fun v18' => (if v18' = (-1 : Int32) then (q_ob (J', X1') 87 12 ((F_X12_look 87 (J', X1')).bind (fun x' => match x' with | (u19', M20') => (if u19' = (-1 : Int32) then some ((), M20') else (q_ob M20' 87 12 ((F_X12_fails 87 M20').bind (fun x' => match x' with | (u21', M22') => some ((), M22')))))))) else some ((), (J', X1'))))) = some ((), (K', X1')) ∧ (∀ c', c' ≠ 87 → K' c' = I' c') ∧ (∀ j', ¬ (8 ≤ j' ∧ j' ≤ 14) → j' ≠ 17 → K' 87 j' = I' 87 j') ∧
      ((∃ x', RR' = .inl x' ∧ K' 87 11 = Int32.ofNat x' ∧ x' ≤ n') ∨ (∃ cls', RR' = .inr cls' ∧ K' 87 11 = -1 ∧ (t_Lb (t_rh I') → K' 87 14 = t_lval (t_rh I') cls'))) := by
    intro J' R' hR' hJ'
    rcases hJ' with ⟨x', c1', c2', c3'⟩ | ⟨x', cls', c1', c2', c3', c4'⟩
    · have hxn' : ¬ J' 87 11 = -1 := by rw [c3'.2.2]; exact p_of1 x' (by omega)
      simp (disch := omega) only [↓ce_87 hB', rf_87 hB', ↓nn_31, ↓nn_33, ↓nn_89, ↓nn_90, ↓nn_91, ↓nn_92, ↓nn_93, ↓nn_94, ↓nn_95, ↓nn_96, ↓nn_97, ↓nn_98, ↓nn_99, ↓nn_100, ↓nn_101, ↓nn_102, ↓nn_103, ↓nn_104, ↓nn_105, ↓nn_106, ↓nn_107, ↓nn_108, p_bs, p_rq0, p_rq1, p_rz0, p_rz1, p_us, p_un, p_uj, ↓reduceIte, hxn']
      exact ⟨J', rfl, fun c' hc' => by rw [c3'.1 c' hc', g2' c' hc'], fun j' h1' h2' => by rw [c3'.2.1 j' (by omega) (by omega) (by omega) (by omega) h2', g2j j' h1' h2'], .inl ⟨x', by rw [hR', c1'], c3'.2.2, c2'⟩⟩
    · have hEx' := t_ENf hE2' c1' c2'
      obtain ⟨J2', b1', b2'⟩ := s_look hB' hEx'.1 hEx'.2.1 c2'
      have hU' := t_skU β n' x' c2'
      have g11' : J' 87 11 = -1 := hEx'.2.2.2.1
      have k11' : J2' 87 11 = -1 := by rw [b2'.2.1 11 (by decide)]; exact g11'
      have q2' := t_QFt c1' b2'
      simp (disch := omega) only [↓ce_87 hB', rf_87 hB', ↓nn_31, ↓nn_33, ↓nn_89, ↓nn_90, ↓nn_91, ↓nn_92, ↓nn_93, ↓nn_94, ↓nn_95, ↓nn_96, ↓nn_97, ↓nn_98, ↓nn_99, ↓nn_100, ↓nn_101, ↓nn_102, ↓nn_103, ↓nn_104, ↓nn_105, ↓nn_106, ↓nn_107, ↓nn_108, p_bs, p_rq0, p_rq1, p_rz0, p_rz1, p_us, p_un, p_uj, ↓reduceIte, g11', b1', t_sgN2 hβ, s_fails hB' b2'.2.2 k11']
      by_cases hx' : t_sk β n' x' < n'
      · rw [if_pos hx'] at c4'
        simp only [hx', not_true_eq_false, ↓reduceIte]
        refine ⟨_, rfl, fun c' hc' => by rw [p_uc _ _ _ _ _ hc', q2'.1 c' hc', g2' c' hc'], fun j' h1' h2' => by rw [p_uj _ _ _ _ _ (by omega), q2'.2.1 j' (by omega) (by omega) h2', g2j j' h1' h2'], .inl ⟨_, by rw [hR', c4'], p_us _ _ _ _, hU'⟩⟩
      · rw [if_neg hx'] at c4'
        simp only [hx', not_false_eq_true, ↓reduceIte]
        refine ⟨J2', rfl, fun c' hc' => by rw [q2'.1 c' hc', g2' c' hc'], fun j' h1' h2' => by rw [q2'.2.1 j' (by omega) (by omega) h2', g2j j' h1' h2'], .inr ⟨cls', by rw [hR', c4'], k11', fun hbb' => ?_⟩⟩
        have := (c3' (by rw [hrho]; exact hbb')).2
        rw [hrho, t_lfV] at this
        rw [b2'.2.1 14 (by decide)]
        exact this
  cases hs' : t_clz β n' 0 with
  | inl x' =>
    rw [hs'] at hr0' hg0' hlaw
    obtain ⟨J1', r1', r2'⟩ := hr0'
    have hxn' : ¬ J1' 87 11 = -1 := by rw [r2'.2.2]; exact p_of1 x' (by have := hg0'.2; omega)
    have hbd' : B_X12_goThrough_32 87 (J1', X1') = some (.inr (J1', X1')) := by
      unfold B_X12_goThrough_32
      simp (disch := omega) only [↓ce_87 hB', rf_87 hB', ↓nn_31, ↓nn_33, ↓nn_89, ↓nn_90, ↓nn_91, ↓nn_92, ↓nn_93, ↓nn_94, ↓nn_95, ↓nn_96, ↓nn_97, ↓nn_98, ↓nn_99, ↓nn_100, ↓nn_101, ↓nn_102, ↓nn_103, ↓nn_104, ↓nn_105, ↓nn_106, ↓nn_107, ↓nn_108, p_bs, p_rq0, p_rq1, p_rz0, p_rz1, p_us, p_un, p_uj, ↓reduceIte, hxn']
    simp only [r1', p_bs]
    rw [p_fu, p_lpE (e' := (J1', X1')) hbd']
    simp only [p_bs]
    exact fin' J1' _ hlaw (.inl ⟨x', rfl, hg0'.2, r2'⟩)
  | inr z0' =>
    obtain ⟨x0', cl0'⟩ := z0'
    rw [hs'] at hr0' hg0' hlaw
    simp only at hlaw
    obtain ⟨J1', r1', r2', r3'⟩ := hr0'
    obtain ⟨z', h1', J', rfl, h2'⟩ := p_lp (fun z' => B_X12_goThrough_32 87 z')
      (fun i' z' => (∃ J' x' cls', z' = (J', X1') ∧ t_QF I2' x' J' ∧ x' ≤ n' ∧ i' < x' ∧ (t_Lb (t_rh I2') → t_FO (t_rh I2') cls' J') ∧ RR' = (if t_sk β n' x' < n' then (if β (t_sk β n' x') = 59 then t_law β n' (240 - i') (t_sk β n' x' + 1) cls' else .inl (t_sk β n' x')) else .inr cls')) ∨ (∃ J' x', z' = (J', X1') ∧ RR' = .inl x' ∧ x' ≤ n' ∧ t_QG I2' x' J'))
      (fun z' => ∃ J', z' = (J', X1') ∧ ((∃ x', RR' = .inl x' ∧ x' ≤ n' ∧ t_QG I2' x' J') ∨ (∃ x' cls', t_QF I2' x' J' ∧ x' ≤ n' ∧ (t_Lb (t_rh I2') → t_FO (t_rh I2') cls' J') ∧ RR' = (if t_sk β n' x' < n' then .inl (t_sk β n' x') else .inr cls')))) 240 (by
        rintro i' z' hi' (⟨J', x', cls', rfl, j1', j2', j3', j4', j5'⟩ | ⟨J', x', rfl, j1', j2', j3'⟩)
        · have hEx' := t_ENf hE2' j1' j2'
          have g11' : J' 87 11 = -1 := hEx'.2.2.2.1
          obtain ⟨J2', b1', b2'⟩ := s_look hB' hEx'.1 hEx'.2.1 j2'
          have hL' := t_skL β n' x'
          have hU' := t_skU β n' x' j2'
          have q2' := t_QFt j1' b2'
          unfold B_X12_goThrough_32
          rw [show (59 : Int32) = Int32.ofNat 59 from rfl]
          simp (disch := omega) only [↓ce_87 hB', rf_87 hB', ↓nn_31, ↓nn_33, ↓nn_89, ↓nn_90, ↓nn_91, ↓nn_92, ↓nn_93, ↓nn_94, ↓nn_95, ↓nn_96, ↓nn_97, ↓nn_98, ↓nn_99, ↓nn_100, ↓nn_101, ↓nn_102, ↓nn_103, ↓nn_104, ↓nn_105, ↓nn_106, ↓nn_107, ↓nn_108, p_bs, p_rq0, p_rq1, p_rz0, p_rz1, p_us, p_un, p_uj, ↓reduceIte, g11', b1', t_sgE2 hβ _ _ (show (59 : Nat) < 256 by decide), b2'.2.2, p_ar]
          by_cases hx' : t_sk β n' x' < n' ∧ β (t_sk β n' x') = 59
          · left
            rw [if_pos hx'.1, if_pos hx'.2, show 240 - i' = (240 - (i' + 1)) + 1 by omega, t_law] at j5'
            have qk' := t_QFt j1' (t_QEu (e'' := t_sk β n' x' + 1) b2')
            have hEk' := t_ENf hE2' qk' (by omega)
            have hFk' : t_Lb (t_rh (q_u2 J2' 87 10 (Int32.ofNat (t_sk β n' x' + 1)))) → t_FO (t_rh (q_u2 J2' 87 10 (Int32.ofNat (t_sk β n' x' + 1)))) cls' (q_u2 J2' 87 10 (Int32.ofNat (t_sk β n' x' + 1))) := by
              rw [t_rhf qk']
              intro hbb'
              unfold t_FO
              rw [p_uj _ _ _ _ _ (by decide), p_uj _ _ _ _ _ (by decide), b2'.2.1 17 (by decide), b2'.2.1 14 (by decide)]
              exact j4' hbb'
            have hr' := s_mclz hB' (kF' qk').2 hEk' (kF' qk').1 hFk'
            have hg' := t_GZz (β := β) (n' := n') (e' := t_sk β n' x' + 1) (by omega)
            simp only [hx', and_self, ↓reduceIte, p_ob (sh_87 hB')]
            cases hs2' : t_clz β n' (t_sk β n' x' + 1) with
            | inl y' =>
              rw [hs2'] at hr' hg' j5'
              obtain ⟨J3', m1', m2'⟩ := hr'
              simp only [m1', p_bs]
              exact ⟨_, rfl, by omega, .inr ⟨J3', y', rfl, j5', hg'.2, t_QFG qk' m2'⟩⟩
            | inr z2' =>
              obtain ⟨y', cl'⟩ := z2'
              rw [hs2'] at hr' hg' j5'
              obtain ⟨J3', m1', m2', m3'⟩ := hr'
              obtain ⟨n1', n2', n3', n4'⟩ := hg'
              rw [t_rhf qk'] at m3'
              simp only [m1', p_bs]
              exact ⟨_, rfl, by omega, .inl ⟨J3', y', _, rfl, t_QFF qk' m2', n2', by omega, m3', j5'⟩⟩
          · right
            simp only [hx', ↓reduceIte]
            refine ⟨_, rfl, J2', rfl, .inr ⟨t_sk β n' x', cls', q2', hU', fun hbb' => ?_, ?_⟩⟩
            · have := j4' hbb'
              unfold t_FO at this ⊢
              rw [b2'.2.1 17 (by decide), b2'.2.1 14 (by decide)]
              exact this
            · rw [t_skk, j5']
              by_cases hy' : t_sk β n' x' < n'
              · rw [if_pos hy', if_pos hy', if_neg (fun q' => hx' ⟨hy', q'⟩)]
              · rw [if_neg hy', if_neg hy']
        · right
          have hxn' : ¬ J' 87 11 = -1 := by rw [j3'.2.2]; exact p_of1 x' (by omega)
          unfold B_X12_goThrough_32
          simp (disch := omega) only [↓ce_87 hB', rf_87 hB', ↓nn_31, ↓nn_33, ↓nn_89, ↓nn_90, ↓nn_91, ↓nn_92, ↓nn_93, ↓nn_94, ↓nn_95, ↓nn_96, ↓nn_97, ↓nn_98, ↓nn_99, ↓nn_100, ↓nn_101, ↓nn_102, ↓nn_103, ↓nn_104, ↓nn_105, ↓nn_106, ↓nn_107, ↓nn_108, p_bs, p_rq0, p_rq1, p_rz0, p_rz1, p_us, p_un, p_uj, ↓reduceIte, hxn']
          exact ⟨_, rfl, J', rfl, .inl ⟨x', j1', j2', j3'⟩⟩) 240 0 q_fu (J1', X1') (by omega) (by unfold q_fu; omega) (.inl ⟨J1', x0', [] ++ [cl0'], rfl, r2', hg0'.2.1, by have := hg0'.1; omega, r3', hlaw⟩)
    simp only [r1', p_bs, h1']
    exact fin' J' _ rfl h2'
end PL'
