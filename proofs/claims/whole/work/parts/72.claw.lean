/-! the class's reader of conditions -/
def t_bc0 (b' : t_Bg) : List Int32 := match b' with
  | none => []
  | some (c', _) => c'
def t_bi (b' : t_Bg) : Int32 := match b' with
  | none => 0
  | some _ => 1
def t_CB (X' : p_X) (I' : p_I) (n' k' : Nat) (G' : Int32 → q_Mem → Option (Int32 × q_Mem)) (U' : t_Bg → Nat → t_R) : Prop := ∀ b' cs' e' J', t_LP I' e' (cs' ++ t_bc0 b') J' → e' ≤ n' → cs'.length + t_bl b' ≤ e' → t_GB n' (2 * k' + 3) e' b' → t_CS X' I' cs' (G' (t_bi b') (J', X')) (U' b' e')
section PL'
variable {X' : p_X} {I' J' : p_I} {β : Nat → Nat} {n' e' e00' : Nat} {cs' : List Int32}
theorem s_ccmp (hB' : p_B X') (hS' : p_S I') (hT' : t_TP β n' e00' I') {rec'' : Nat → Nat → Int32 → Int32 → q_Mem → Option (Int32 × q_Mem)} {d' : Int32} {S' : Nat → t_R} {a' : Nat} (hg' : ∀ e', e' ≤ n' → t_GR n' a' e' 0 False (S' e')) (hA' : ∀ cs' e' J', t_LP I' e' cs' J' → e' ≤ n' → cs'.length ≤ e' → t_CS X' I' cs' (R_X5_readAtom 60 1 49 d' (J', X')) (S' e'))
    {c' : List Int32} (v' : t_V) (hC' : t_LP I' e' (cs' ++ c') J') (he' : e' ≤ n') (hl' : cs'.length + c'.length ≤ e') : t_CS X' I' cs' (J_X5_readUnit_53 rec'' 49 d' (J', X')) (t_cmp β n' S' e' c' v') := by
  have hn' := hT'.2.2.2.1
  obtain ⟨J2', b1', b2'⟩ := s_peekAmong hB' (t_TPl hT' hC' he') (t_SHl (t_sh12 hB' hS') hC' (by decide)) (by decide) (by decide)
  have hL' := t_skL β n' e'
  have hU' := t_skU β n' e' he'
  have c1' := t_LPp hC' b2'
  unfold J_X5_readUnit_53 t_cmp
  simp (disch := omega) only [↓ce_49 hB', rf_49 hB', ↓ce_37 hB', rf_37 hB', ↓nn_38, ↓nn_39, ↓nn_51, p_bs, p_rq0, p_rq1, p_rz0, p_rz1, p_us, p_un, p_uj, ↓reduceIte, b1']
  cases hpa' : t_pa β n' t_s3 3 (t_sk β n' e') with
  | none =>
    simp only [t_nx, ↓reduceIte]
    exact ⟨J2', rfl, t_LPx c1'⟩
  | some w' =>
    obtain ⟨p1', p2', p3'⟩ := t_paB hpa'
    have c2' := t_LPp hC' (t_PEu (e'' := t_sk β n' e' + 1) b2')
    have hr2' := hA' (cs' ++ c') (t_sk β n' e' + 1) _ c2' (by omega) (by rw [List.length_append]; omega)
    have hg2' := hg' (t_sk β n' e' + 1) (by omega)
    simp (disch := omega) only [↓ce_49 hB', rf_49 hB', ↓ce_37 hB', rf_37 hB', ↓nn_38, ↓nn_39, ↓nn_51, p_bs, p_rq0, p_rq1, p_rz0, p_rz1, p_us, p_un, p_uj, ↓reduceIte, t_nxS, p_ofN1, b2'.2.2, p_ar]
    cases hs2' : S' (t_sk β n' e' + 1) with
    | inl x' =>
      rw [hs2'] at hr2'
      obtain ⟨J3', q1', q2'⟩ := hr2'
      simp (disch := omega) only [↓ce_49 hB', rf_49 hB', ↓nn_38, ↓nn_51, p_bs, p_rq0, p_rq1, p_rz0, p_rz1, p_us, p_un, p_uj, ↓reduceIte, q1']
      exact ⟨J3', rfl, q2'⟩
    | inr z2' =>
      obtain ⟨x', cc', vv'⟩ := z2'
      rw [hs2'] at hr2' hg2'
      obtain ⟨J3', q1', q2'⟩ := hr2'
      obtain ⟨m1', m2', m3', m4', m5'⟩ := hg2'
      obtain ⟨J4', w1', w2'⟩ := s_write hB' q2' (by rw [List.length_append, List.length_append]; omega) (-11 - Int32.ofNat w')
      simp (disch := omega) only [↓ce_49 hB', rf_49 hB', ↓nn_38, ↓nn_51, p_bs, p_rq0, p_rq1, p_rz0, p_rz1, p_us, p_un, p_uj, ↓reduceIte, q1', show ((1 : Int32) = 0) = False from by decide, w1']
      refine ⟨J4', rfl, ?_⟩
      rw [List.append_assoc, List.append_assoc] at w2'
      rw [List.append_assoc]
      exact w2'
theorem s_cnested (hB' : p_B X') (hT' : t_TP β n' e00' I') {rec'' : Nat → Nat → Int32 → Int32 → q_Mem → Option (Int32 × q_Mem)} {d' : Int32} {U' C' : Nat → t_R} {a' : Nat} (hgU' : ∀ e', e' ≤ n' → t_GR n' a' e' 0 True (U' e')) (hgC' : ∀ e', e' ≤ n' → t_GR n' a' e' 0 True (C' e')) (hU' : ∀ cs' e' J', t_LP I' e' cs' J' → e' ≤ n' → cs'.length ≤ e' → t_CS X' I' cs' (rec'' 3 49 d' 0 (J', X')) (U' e')) (hC' : ∀ cs' e' J', t_LP I' e' cs' J' → e' ≤ n' → cs'.length ≤ e' → t_CS X' I' cs' (rec'' 0 49 d' 0 (J', X')) (C' e'))
    {w' : Nat} (hpa' : t_pa β n' t_s4 2 e' = some w') (hsk' : t_sk β n' e' = e') (hP' : t_LP I' e' cs' J') (he' : e' ≤ n') (hl' : cs'.length ≤ e') : t_CS X' I' cs' (F_X5_readNested rec'' 49 d' (J', X')) (if w' = 0 then (match U' (e' + 1) with
          | .inl x' => .inl x'
          | .inr (x', c', v') => .inr (x', c' ++ [-16], fun ρ => 1 - v' ρ))
        else (match C' (e' + 1) with
          | .inl x' => .inl x'
          | .inr (x', c', v') => if t_is β n' (t_sk β n' x') 41 = true then .inr (t_sk β n' x' + 1, c', v') else .inl (t_sk β n' x'))) := by
  have hn' := hT'.2.2.2.1
  obtain ⟨p1', p2', p3'⟩ := t_paB hpa'
  obtain ⟨J1', t1', t2'⟩ := s_take hB' (t_TPl hT' hP' he') 40 (by decide)
  rw [hsk'] at t1' t2'
  have t1'' : F_X9_take 37 40 (J', X') = some (t_b (t_is β n' e' 40), (J1', X')) := t1'
  unfold F_X5_readNested
  simp (disch := omega) only [↓ce_49 hB', rf_49 hB', ↓ce_37 hB', rf_37 hB', ↓nn_38, ↓nn_39, ↓nn_51, p_bs, p_rq0, p_rq1, p_rz0, p_rz1, p_us, p_un, p_uj, ↓reduceIte, t1'', t_b0]
  have hw' : w' = 0 ∨ w' = 1 := by omega
  rcases hw' with rfl | rfl
  · have h33' : β e' = 33 := p3'.symm
    have h40' : t_is β n' e' 40 = false := by simp [t_is, h33']
    rw [h40', if_neg (by decide)] at t2'
    have c1' := t_LPp hP' t2'
    obtain ⟨J2', u1', u2'⟩ := s_take hB' (t_TPl hT' c1' he') 33 (by decide)
    rw [hsk'] at u1' u2'
    have h33'' : t_is β n' e' 33 = true := by simp [t_is, h33', p1']
    rw [h33''] at u1' u2'
    rw [if_pos rfl] at u2'
    have u1'' : F_X9_take 37 33 (J1', X') = some (1, (J2', X')) := u1'
    simp (disch := omega) only [↓ce_49 hB', rf_49 hB', ↓ce_37 hB', rf_37 hB', ↓nn_38, ↓nn_39, ↓nn_51, p_bs, p_rq0, p_rq1, p_rz0, p_rz1, p_us, p_un, p_uj, ↓reduceIte, h40', u1'', show ((1 : Int32) = 0) = False from by decide]
    have hr' := hU' cs' (e' + 1) J2' (t_LPp c1' u2') (by omega) (by omega)
    have hg' := hgU' (e' + 1) (by omega)
    cases hs' : U' (e' + 1) with
    | inl x' =>
      rw [hs'] at hr'
      obtain ⟨J3', q1', q2'⟩ := hr'
      simp (disch := omega) only [↓ce_49 hB', rf_49 hB', ↓nn_38, ↓nn_51, p_bs, p_rq0, p_rq1, p_rz0, p_rz1, p_us, p_un, p_uj, ↓reduceIte, q1']
      exact ⟨J3', rfl, q2'⟩
    | inr z2' =>
      obtain ⟨x', cc', vv'⟩ := z2'
      rw [hs'] at hr' hg'
      obtain ⟨J3', q1', q2'⟩ := hr'
      obtain ⟨m1', m2', m3', m4', m5'⟩ := hg'
      obtain ⟨J4', w1', w2'⟩ := s_write hB' q2' (by rw [List.length_append]; omega) (-16)
      simp (disch := omega) only [↓ce_49 hB', rf_49 hB', ↓nn_38, ↓nn_51, p_bs, p_rq0, p_rq1, p_rz0, p_rz1, p_us, p_un, p_uj, ↓reduceIte, q1', show ((1 : Int32) = 0) = False from by decide, w1']
      refine ⟨J4', rfl, ?_⟩
      rw [List.append_assoc] at w2'
      exact w2'
  · have h40v : β e' = 40 := p3'.symm
    have h40' : t_is β n' e' 40 = true := by simp [t_is, h40v, p1']
    rw [h40', if_pos rfl] at t2'
    have c1' := t_LPp hP' t2'
    simp (disch := omega) only [↓ce_49 hB', rf_49 hB', ↓ce_37 hB', rf_37 hB', ↓nn_38, ↓nn_39, ↓nn_51, p_bs, p_rq0, p_rq1, p_rz0, p_rz1, p_us, p_un, p_uj, ↓reduceIte, h40', Bool.true_eq_false, show ((1 : Nat) = 0) = False from by decide]
    have hr' := hC' cs' (e' + 1) J1' c1' (by omega) (by omega)
    have hg' := hgC' (e' + 1) (by omega)
    cases hs' : C' (e' + 1) with
    | inl x' =>
      rw [hs'] at hr'
      obtain ⟨J3', q1', q2'⟩ := hr'
      simp (disch := omega) only [↓ce_49 hB', rf_49 hB', ↓nn_38, ↓nn_51, p_bs, p_rq0, p_rq1, p_rz0, p_rz1, p_us, p_un, p_uj, ↓reduceIte, q1']
      exact ⟨J3', rfl, q2'⟩
    | inr z2' =>
      obtain ⟨x', cc', vv'⟩ := z2'
      rw [hs'] at hr' hg'
      obtain ⟨J3', q1', q2'⟩ := hr'
      obtain ⟨m1', m2', m3', m4', m5'⟩ := hg'
      obtain ⟨J4', u1', u2'⟩ := s_take hB' (t_TPl hT' q2' m2') 41 (by decide)
      have u1'' : F_X9_take 37 41 (J3', X') = some (t_b (t_is β n' (t_sk β n' x') 41), (J4', X')) := u1'
      simp (disch := omega) only [↓ce_49 hB', rf_49 hB', ↓ce_37 hB', rf_37 hB', ↓nn_38, ↓nn_39, ↓nn_51, p_bs, p_rq0, p_rq1, p_rz0, p_rz1, p_us, p_un, p_uj, ↓reduceIte, q1', show ((1 : Int32) = 0) = False from by decide, u1'', t_b0]
      cases h41' : t_is β n' (t_sk β n' x') 41
      · rw [h41', if_neg (by decide)] at u2'
        simp only [↓reduceIte, Bool.false_eq_true]
        exact ⟨J4', rfl, t_LPx (t_LPp q2' u2')⟩
      · rw [h41', if_pos rfl] at u2'
        simp only [Bool.true_eq_false, ↓reduceIte]
        exact ⟨J4', rfl, t_LPp q2' u2'⟩
theorem s_cunit (hB' : p_B X') (hS' : p_S I') (hT' : t_TP β n' e00' I') {rec'' : Nat → Nat → Int32 → Int32 → q_Mem → Option (Int32 × q_Mem)} {d' k' : Nat} (hd' : d' ≤ 6) {S' : Nat → t_R} {inner : Option ((Nat → t_R) × (Nat → t_R))} (hg' : ∀ e', e' ≤ n' → t_GR n' (2 * k' + 3) e' 0 False (S' e')) (hA' : ∀ cs' e' J', t_LP I' e' cs' J' → e' ≤ n' → cs'.length ≤ e' → t_CS X' I' cs' (R_X5_readAtom 60 1 49 (Int32.ofNat d') (J', X')) (S' e'))
    (hin' : (d' = 6 ∧ inner = none) ∨ (d' < 6 ∧ ∃ U' C', inner = some (U', C') ∧ ∀ cs' e' J' w', t_pa β n' t_s4 2 e' = some w' → t_sk β n' e' = e' → t_LP I' e' cs' J' → e' ≤ n' → cs'.length ≤ e' → t_CS X' I' cs' (rec'' 1 49 (Int32.ofNat (d' + 1)) 0 (J', X')) (if w' = 0 then (match U' (e' + 1) with
          | .inl x' => .inl x'
          | .inr (x', c', v') => .inr (x', c' ++ [-16], fun ρ => 1 - v' ρ))
        else (match C' (e' + 1) with
          | .inl x' => .inl x'
          | .inr (x', c', v') => if t_is β n' (t_sk β n' x') 41 = true then .inr (t_sk β n' x' + 1, c', v') else .inl (t_sk β n' x'))))) :
    t_CB X' I' n' k' (fun b' M' => F_X5_readUnit rec'' 49 (Int32.ofNat d') b' M') (t_utB β n' S' inner) := by
  intro b' cs' e' J' hC' he' hl' hb'
  have hn' := hT'.2.2.2.1
  cases b' with
  | some z' =>
    obtain ⟨c', v'⟩ := z'
    show t_CS X' I' cs' (F_X5_readUnit rec'' 49 (Int32.ofNat d') 1 (J', X')) (t_cmp β n' S' e' c' v')
    unfold F_X5_readUnit J_X5_readUnit_39
    simp only [show ((1 : Int32) = 0) = False from by decide, ↓reduceIte]
    exact s_ccmp hB' hS' hT' hg' hA' v' hC' he' hl'
  | none =>
    have hC' : t_LP I' e' (cs' ++ []) J' := hC'
    rw [List.append_nil] at hC'
    have hl' : cs'.length + 0 ≤ e' := hl'
    have hT1' := t_TPl hT' hC' he'
    obtain ⟨J1', b1', b2'⟩ := s_peekAmong hB' hT1' (t_SHl (t_sh10 hB' hS') hC' (by decide)) (by decide) (by decide)
    have hL' := t_skL β n' e'
    have hU' := t_skU β n' e' he'
    have c1' := t_LPp hC' b2'
    show t_CS X' I' cs' (F_X5_readUnit rec'' 49 (Int32.ofNat d') 0 (J', X')) (t_utB β n' S' inner none e')
    unfold F_X5_readUnit t_utB
    simp (disch := omega) only [↓ce_49 hB', rf_49 hB', ↓ce_37 hB', rf_37 hB', ↓nn_38, ↓nn_39, ↓nn_51, p_bs, p_rq0, p_rq1, p_rz0, p_rz1, p_us, p_un, p_uj, ↓reduceIte, b1']
    cases hpa' : t_pa β n' t_s4 2 (t_sk β n' e') with
    | none =>
      unfold J_X5_readUnit_39
      have hr' := hA' cs' (t_sk β n' e') J1' c1' hU' (by omega)
      have hg2' := hg' (t_sk β n' e') hU'
      simp only [t_nx, ↓reduceIte]
      cases hs' : S' (t_sk β n' e') with
      | inl x' =>
        rw [hs'] at hr'
        obtain ⟨J3', q1', q2'⟩ := hr'
        simp (disch := omega) only [↓ce_49 hB', rf_49 hB', ↓nn_38, ↓nn_51, p_bs, p_rq0, p_rq1, p_rz0, p_rz1, p_us, p_un, p_uj, ↓reduceIte, q1']
        exact ⟨J3', rfl, q2'⟩
      | inr z2' =>
        obtain ⟨x', cc', vv'⟩ := z2'
        rw [hs'] at hr' hg2'
        obtain ⟨J3', q1', q2'⟩ := hr'
        obtain ⟨m1', m2', m3', m4', m5'⟩ := hg2'
        simp (disch := omega) only [↓ce_49 hB', rf_49 hB', ↓nn_38, ↓nn_51, p_bs, p_rq0, p_rq1, p_rz0, p_rz1, p_us, p_un, p_uj, ↓reduceIte, q1', show ((1 : Int32) = 0) = False from by decide]
        exact s_ccmp hB' hS' hT' hg' hA' vv' q2' m2' (by omega)
    | some w' =>
      have hpc' : ∀ a' : Nat, a' ≤ 6 → (Int32.ofNat a' < 6) = (a' < 6) := fun a' ha' => p_lt a' 6 (by omega) (by decide)
      obtain ⟨p1', p2', p3'⟩ := t_paB hpa'
      have hnw' : ¬ Int32.ofNat w' = -1 := p_of1 w' (by omega)
      simp only [t_nxS, hnw', ↓reduceIte, hpc' d' hd']
      rcases hin' with ⟨rfl, rfl⟩ | ⟨hd6', U', C', rfl, hne'⟩
      · simp only [Nat.lt_irrefl, ↓reduceIte, p_rz0]
        exact ⟨J1', rfl, t_LPx c1'⟩
      · have hr' := hne' cs' (t_sk β n' e') J1' w' hpa' (t_skk β n' e') c1' hU' (by omega)
        simp only [hd6', ↓reduceIte, p_ob (sh_49 hB'), p_ar]
        generalize (if w' = 0 then (match U' (t_sk β n' e' + 1) with
          | .inl x' => .inl x'
          | .inr (x', c', v') => .inr (x', c' ++ [-16], fun ρ => 1 - v' ρ))
        else (match C' (t_sk β n' e' + 1) with
          | .inl x' => .inl x'
          | .inr (x', c', v') => if t_is β n' (t_sk β n' x') 41 = true then .inr (t_sk β n' x' + 1, c', v') else .inl (t_sk β n' x')) : t_R) = r' at hr' ⊢
        cases r' with
        | inl x' =>
          obtain ⟨J3', q1', q2'⟩ := hr'
          simp only [q1', p_bs, ↓reduceIte, p_rz0]
          exact ⟨J3', rfl, q2'⟩
        | inr z2' =>
          obtain ⟨x', cc', vv'⟩ := z2'
          obtain ⟨J3', q1', q2'⟩ := hr'
          simp only [q1', p_bs, show ((1 : Int32) = 0) = False from by decide, ↓reduceIte, p_rz1]
          exact ⟨J3', rfl, q2'⟩
theorem s_ctruth (hB' : p_B X') (hT' : t_TP β n' e00' I') {rec'' : Nat → Nat → Int32 → Int32 → q_Mem → Option (Int32 × q_Mem)} {d' : Int32} {U' : t_Bg → Nat → t_R} {a' k' : Nat} (hg' : ∀ b' e', e' ≤ n' → t_GB n' (2 * k' + 3) e' b' → t_GR n' a' e' (t_bl b') True (U' b' e')) (hA' : t_CB X' I' n' k' (fun b' M' => rec'' 3 49 d' b' M') U') : t_CB X' I' n' k' (fun b' M' => F_X5_readTruth rec'' 49 d' b' M') (t_lpB β n' U' 38 (-14)) := by
  intro b' cs' e' J' hC' he' hl' hb'
  have hn' := hT'.2.2.2.1
  have hr' : t_CS X' I' cs' (rec'' 3 49 d' (t_bi b') (J', X')) (U' b' e') := hA' b' cs' e' J' hC' he' hl' hb'
  have hg0' := hg' b' e' he' hb'
  show t_CS X' I' cs' (F_X5_readTruth rec'' 49 d' (t_bi b') (J', X')) (t_lpB β n' U' 38 (-14) b' e')
  unfold F_X5_readTruth t_lpB
  cases hs' : U' b' e' with
  | inl x' =>
    rw [hs'] at hr'
    obtain ⟨J1', r1', r2'⟩ := hr'
    simp (disch := omega) only [↓ce_49 hB', rf_49 hB', ↓nn_38, ↓nn_51, p_bs, p_rq0, p_rq1, p_rz0, p_rz1, p_us, p_un, p_uj, ↓reduceIte, r1']
    exact ⟨J1', rfl, r2'⟩
  | inr z' =>
    obtain ⟨x0', c0', v0'⟩ := z'
    rw [hs'] at hr' hg0'
    obtain ⟨J1', r1', r2'⟩ := hr'
    obtain ⟨k1', k2', k3', k4', k5'⟩ := hg0'
    obtain ⟨z', h1', h2'⟩ := p_lp (fun z' => B_X5_readTruth_13 rec'' 49 d' z'.1 z'.2)
      (fun i' z' => ∃ J' e1' c' v', z' = (Int32.ofNat i', (J', X')) ∧ t_LP I' e1' (cs' ++ c') J' ∧ e1' ≤ n' ∧ cs'.length + c'.length ≤ e1' ∧ t_lpU β n' U' 38 (-14) (240 - i') e1' c' v' = t_lpU β n' U' 38 (-14) 240 x0' c0' v0')
      (fun z' => (∃ x' J', t_lpU β n' U' 38 (-14) 240 x0' c0' v0' = .inl x' ∧ z' = .inl (J', X') ∧ t_LX I' x' J') ∨ (∃ x' c' v' J', t_lpU β n' U' 38 (-14) 240 x0' c0' v0' = .inr (x', c', v') ∧ z' = .inr (J', X') ∧ t_LP I' x' (cs' ++ c') J')) 240 (by
        rintro i' z' hi' ⟨J', e1', c', v', rfl, j1', j2', j3', j4'⟩
        unfold B_X5_readTruth_13
        by_cases hlt' : i' < 240
        · rw [show 240 - i' = (240 - (i' + 1)) + 1 by omega, t_lpU] at j4'
          obtain ⟨J2', b1', b2'⟩ := s_take hB' (t_TPl hT' j1' j2') 38 (by decide)
          have b1'' : F_X9_take 37 38 (J', X') = some (t_b (t_is β n' (t_sk β n' e1') 38), (J2', X')) := b1'
          have hL' := t_skL β n' e1'
          have hU' := t_skU β n' e1' j2'
          simp (disch := omega) only [↓ce_49 hB', rf_49 hB', ↓ce_37 hB', rf_37 hB', ↓nn_38, ↓nn_39, ↓nn_51, p_bs, p_rq0, p_rq1, p_rz0, p_rz1, p_us, p_un, p_uj, ↓reduceIte, p_cm, hlt', b1'', t_b0]
          cases hsg' : t_is β n' (t_sk β n' e1') 38
          · right
            rw [hsg', if_neg (by decide)] at b2' j4'
            simp only [↓reduceIte]
            exact ⟨_, rfl, .inr ⟨_, c', v', J2', j4'.symm, rfl, t_LPp j1' b2'⟩⟩
          · rw [hsg', if_pos rfl] at b2' j4'
            have p1' := t_is1 hsg'
            have c2' := t_LPp j1' b2'
            have hr2' : t_CS X' I' (cs' ++ c') (rec'' 3 49 d' 0 (J2', X')) (U' none (t_sk β n' e1' + 1)) := hA' none (cs' ++ c') (t_sk β n' e1' + 1) J2' (by show t_LP I' _ ((cs' ++ c') ++ []) J2'; rw [List.append_nil]; exact c2') (by omega) (by show (cs' ++ c').length + 0 ≤ _; rw [List.length_append]; omega) trivial
            have hg2' := hg' none (t_sk β n' e1' + 1) (by omega) trivial
            simp only [Bool.true_eq_false, ↓reduceIte, p_ob (sh_49 hB')]
            cases hs2' : U' none (t_sk β n' e1' + 1) with
            | inl x' =>
              right
              rw [hs2'] at j4' hr2'
              obtain ⟨J3', q1', q2'⟩ := hr2'
              simp (disch := omega) only [↓ce_49 hB', rf_49 hB', ↓nn_38, ↓nn_51, p_bs, p_rq0, p_rq1, p_rz0, p_rz1, p_us, p_un, p_uj, ↓reduceIte, q1']
              exact ⟨_, rfl, .inl ⟨x', J3', j4'.symm, rfl, q2'⟩⟩
            | inr z2' =>
              left
              obtain ⟨x', cc', vv'⟩ := z2'
              rw [hs2'] at j4' hr2' hg2'
              obtain ⟨J3', q1', q2'⟩ := hr2'
              obtain ⟨m1', m2', m3', m4', m5'⟩ := hg2'
              have m3' : cc'.length + (t_sk β n' e1' + 1) ≤ x' + 0 := m3'
              obtain ⟨J4', w1', w2'⟩ := s_write hB' q2' (by rw [List.length_append, List.length_append]; omega) (-14)
              simp (disch := omega) only [↓ce_49 hB', rf_49 hB', ↓nn_38, ↓nn_51, p_bs, p_rq0, p_rq1, p_rz0, p_rz1, p_us, p_un, p_uj, ↓reduceIte, q1', show ((1 : Int32) = 0) = False from by decide, w1', p_ar]
              refine ⟨_, rfl, True.intro, J4', x', _, _, rfl, ?_, m2', ?_, j4'⟩
              · rw [List.append_assoc, List.append_assoc] at w2'
                rw [List.append_assoc]
                exact w2'
              · rw [List.length_append, List.length_append]
                show cs'.length + (c'.length + cc'.length + 1) ≤ x'
                omega
        · right
          have hi'' : i' = 240 := by omega
          subst hi''
          rw [Nat.sub_self, t_lpU] at j4'
          simp (disch := omega) only [p_bs, p_rq0, p_rq1, p_rz0, p_rz1, p_us, p_un, p_uj, ↓reduceIte, p_cm, Nat.lt_irrefl]
          exact ⟨_, rfl, .inr ⟨e1', c', v', J', j4'.symm, rfl, j1'⟩⟩) 240 0 q_fu (0, (J1', X')) (by omega) (by unfold q_fu; omega) ⟨J1', x0', c0', v0', rfl, r2', k2', by omega, rfl⟩
    simp (disch := omega) only [↓ce_49 hB', rf_49 hB', ↓nn_38, ↓nn_51, p_bs, p_rq0, p_rq1, p_rz0, p_rz1, p_us, p_un, p_uj, ↓reduceIte, r1', show ((1 : Int32) = 0) = False from by decide, h1']
    rcases h2' with ⟨x', J2', q1', rfl, q3'⟩ | ⟨x', c', v', J2', q1', rfl, q3'⟩
    · rw [q1']
      exact ⟨J2', rfl, q3'⟩
    · rw [q1']
      exact ⟨J2', rfl, q3'⟩
theorem s_ccond (hB' : p_B X') (hT' : t_TP β n' e00' I') {rec'' : Nat → Nat → Int32 → Int32 → q_Mem → Option (Int32 × q_Mem)} {d' : Int32} {U' : t_Bg → Nat → t_R} {a' k' : Nat} (hg' : ∀ b' e', e' ≤ n' → t_GB n' (2 * k' + 3) e' b' → t_GR n' a' e' (t_bl b') True (U' b' e')) (hA' : t_CB X' I' n' k' (fun b' M' => rec'' 2 49 d' b' M') U') : t_CB X' I' n' k' (fun b' M' => F_X5_readCondition rec'' 49 d' b' M') (t_lpB β n' U' 124 (-15)) := by
  intro b' cs' e' J' hC' he' hl' hb'
  have hn' := hT'.2.2.2.1
  have hr' : t_CS X' I' cs' (rec'' 2 49 d' (t_bi b') (J', X')) (U' b' e') := hA' b' cs' e' J' hC' he' hl' hb'
  have hg0' := hg' b' e' he' hb'
  show t_CS X' I' cs' (F_X5_readCondition rec'' 49 d' (t_bi b') (J', X')) (t_lpB β n' U' 124 (-15) b' e')
  unfold F_X5_readCondition t_lpB
  cases hs' : U' b' e' with
  | inl x' =>
    rw [hs'] at hr'
    obtain ⟨J1', r1', r2'⟩ := hr'
    simp (disch := omega) only [↓ce_49 hB', rf_49 hB', ↓nn_38, ↓nn_51, p_bs, p_rq0, p_rq1, p_rz0, p_rz1, p_us, p_un, p_uj, ↓reduceIte, r1']
    exact ⟨J1', rfl, r2'⟩
  | inr z' =>
    obtain ⟨x0', c0', v0'⟩ := z'
    rw [hs'] at hr' hg0'
    obtain ⟨J1', r1', r2'⟩ := hr'
    obtain ⟨k1', k2', k3', k4', k5'⟩ := hg0'
    obtain ⟨z', h1', h2'⟩ := p_lp (fun z' => B_X5_readCondition_13 rec'' 49 d' z'.1 z'.2)
      (fun i' z' => ∃ J' e1' c' v', z' = (Int32.ofNat i', (J', X')) ∧ t_LP I' e1' (cs' ++ c') J' ∧ e1' ≤ n' ∧ cs'.length + c'.length ≤ e1' ∧ t_lpU β n' U' 124 (-15) (240 - i') e1' c' v' = t_lpU β n' U' 124 (-15) 240 x0' c0' v0')
      (fun z' => (∃ x' J', t_lpU β n' U' 124 (-15) 240 x0' c0' v0' = .inl x' ∧ z' = .inl (J', X') ∧ t_LX I' x' J') ∨ (∃ x' c' v' J', t_lpU β n' U' 124 (-15) 240 x0' c0' v0' = .inr (x', c', v') ∧ z' = .inr (J', X') ∧ t_LP I' x' (cs' ++ c') J')) 240 (by
        rintro i' z' hi' ⟨J', e1', c', v', rfl, j1', j2', j3', j4'⟩
        unfold B_X5_readCondition_13
        by_cases hlt' : i' < 240
        · rw [show 240 - i' = (240 - (i' + 1)) + 1 by omega, t_lpU] at j4'
          obtain ⟨J2', b1', b2'⟩ := s_take hB' (t_TPl hT' j1' j2') 124 (by decide)
          have b1'' : F_X9_take 37 124 (J', X') = some (t_b (t_is β n' (t_sk β n' e1') 124), (J2', X')) := b1'
          have hL' := t_skL β n' e1'
          have hU' := t_skU β n' e1' j2'
          simp (disch := omega) only [↓ce_49 hB', rf_49 hB', ↓ce_37 hB', rf_37 hB', ↓nn_38, ↓nn_39, ↓nn_51, p_bs, p_rq0, p_rq1, p_rz0, p_rz1, p_us, p_un, p_uj, ↓reduceIte, p_cm, hlt', b1'', t_b0]
          cases hsg' : t_is β n' (t_sk β n' e1') 124
          · right
            rw [hsg', if_neg (by decide)] at b2' j4'
            simp only [↓reduceIte]
            exact ⟨_, rfl, .inr ⟨_, c', v', J2', j4'.symm, rfl, t_LPp j1' b2'⟩⟩
          · rw [hsg', if_pos rfl] at b2' j4'
            have p1' := t_is1 hsg'
            have c2' := t_LPp j1' b2'
            have hr2' : t_CS X' I' (cs' ++ c') (rec'' 2 49 d' 0 (J2', X')) (U' none (t_sk β n' e1' + 1)) := hA' none (cs' ++ c') (t_sk β n' e1' + 1) J2' (by show t_LP I' _ ((cs' ++ c') ++ []) J2'; rw [List.append_nil]; exact c2') (by omega) (by show (cs' ++ c').length + 0 ≤ _; rw [List.length_append]; omega) trivial
            have hg2' := hg' none (t_sk β n' e1' + 1) (by omega) trivial
            simp only [Bool.true_eq_false, ↓reduceIte, p_ob (sh_49 hB')]
            cases hs2' : U' none (t_sk β n' e1' + 1) with
            | inl x' =>
              right
              rw [hs2'] at j4' hr2'
              obtain ⟨J3', q1', q2'⟩ := hr2'
              simp (disch := omega) only [↓ce_49 hB', rf_49 hB', ↓nn_38, ↓nn_51, p_bs, p_rq0, p_rq1, p_rz0, p_rz1, p_us, p_un, p_uj, ↓reduceIte, q1']
              exact ⟨_, rfl, .inl ⟨x', J3', j4'.symm, rfl, q2'⟩⟩
            | inr z2' =>
              left
              obtain ⟨x', cc', vv'⟩ := z2'
              rw [hs2'] at j4' hr2' hg2'
              obtain ⟨J3', q1', q2'⟩ := hr2'
              obtain ⟨m1', m2', m3', m4', m5'⟩ := hg2'
              have m3' : cc'.length + (t_sk β n' e1' + 1) ≤ x' + 0 := m3'
              obtain ⟨J4', w1', w2'⟩ := s_write hB' q2' (by rw [List.length_append, List.length_append]; omega) (-15)
              simp (disch := omega) only [↓ce_49 hB', rf_49 hB', ↓nn_38, ↓nn_51, p_bs, p_rq0, p_rq1, p_rz0, p_rz1, p_us, p_un, p_uj, ↓reduceIte, q1', show ((1 : Int32) = 0) = False from by decide, w1', p_ar]
              refine ⟨_, rfl, True.intro, J4', x', _, _, rfl, ?_, m2', ?_, j4'⟩
              · rw [List.append_assoc, List.append_assoc] at w2'
                rw [List.append_assoc]
                exact w2'
              · rw [List.length_append, List.length_append]
                show cs'.length + (c'.length + cc'.length + 1) ≤ x'
                omega
        · right
          have hi'' : i' = 240 := by omega
          subst hi''
          rw [Nat.sub_self, t_lpU] at j4'
          simp (disch := omega) only [p_bs, p_rq0, p_rq1, p_rz0, p_rz1, p_us, p_un, p_uj, ↓reduceIte, p_cm, Nat.lt_irrefl]
          exact ⟨_, rfl, .inr ⟨e1', c', v', J', j4'.symm, rfl, j1'⟩⟩) 240 0 q_fu (0, (J1', X')) (by omega) (by unfold q_fu; omega) ⟨J1', x0', c0', v0', rfl, r2', k2', by omega, rfl⟩
    simp (disch := omega) only [↓ce_49 hB', rf_49 hB', ↓nn_38, ↓nn_51, p_bs, p_rq0, p_rq1, p_rz0, p_rz1, p_us, p_un, p_uj, ↓reduceIte, r1', show ((1 : Int32) = 0) = False from by decide, h1']
    rcases h2' with ⟨x', J2', q1', rfl, q3'⟩ | ⟨x', c', v', J2', q1', rfl, q3'⟩
    · rw [q1']
      exact ⟨J2', rfl, q3'⟩
    · rw [q1']
      exact ⟨J2', rfl, q3'⟩
theorem s_cRunit (hB' : p_B X') (hS' : p_S I') (hT' : t_TP β n' e00' I') (k' : Nat) (hk' : k' ≤ 6) (f' : Nat) (hf' : 4 * k' + 1 ≤ f') : t_CB X' I' n' k' (fun b' M' => R_X5_readCondition f' 3 49 (Int32.ofNat (6 - k')) b' M') (t_unt β n' k') := by
  induction k' generalizing f' with
  | zero =>
    obtain ⟨f', rfl⟩ : ∃ g', f' = g' + 1 := ⟨f' - 1, by omega⟩
    exact s_cunit hB' hS' hT' (d' := 6) (by omega) (fun e' he' => t_GRsum 0 e' he') (s_cRsum hB' hS' hT' 0 (by omega) 60 (by omega)) (.inl ⟨rfl, rfl⟩)
  | succ k' ih' =>
    obtain ⟨f', rfl⟩ : ∃ g', f' = g' + 1 + 1 + 1 + 1 + 1 := ⟨f' - 5, by omega⟩
    refine s_cunit hB' hS' hT' (d' := 6 - (k' + 1)) (by omega) (fun e' he' => t_GRsum (k' + 1) e' he') (s_cRsum hB' hS' hT' (k' + 1) (by omega) 60 (by omega)) (.inr ⟨by omega, t_unt β n' k' none, t_cndO β n' (t_unt β n' k') none, rfl, ?_⟩)
    intro cs' e' J' w' hpa' hsk' hC' he' hl'
    rw [show 6 - (k' + 1) + 1 = 6 - k' by omega]
    refine s_cnested (a' := 2 * k' + 6) hB' hT' (fun e' he' => t_GRw (t_GRunt k' none e' he' trivial) (by omega)) (fun e' he' => t_GRcnd k' none e' he' trivial) ?_ ?_ hpa' hsk' hC' he' hl'
    · intro cs' e' J' hC' he' hl'
      exact ih' (by omega) (f' + 1 + 1 + 1) (by omega) none cs' e' J' (by show t_LP I' e' (cs' ++ []) J'; rw [List.append_nil]; exact hC') he' hl' trivial
    · intro cs' e' J' hC' he' hl'
      refine s_ccond (k' := k') (a' := 2 * k' + 4 + 1) hB' hT' (U' := t_lpB β n' (t_unt β n' k') 38 (-14)) ?_ ?_ none cs' e' J' (by show t_LP I' e' (cs' ++ []) J'; rw [List.append_nil]; exact hC') he' hl' trivial
      · exact fun b' e' he' hb' => t_GRlpB (nb' := 2 * k' + 3) (fun b' e' he' hb' => t_GRunt k' b' e' he' hb') (.inl rfl) b' e' he' hb'
      · refine s_ctruth (k' := k') (a' := 2 * k' + 4) hB' hT' (fun b' e' he' hb' => t_GRunt k' b' e' he' hb') ?_
        exact ih' (by omega) (f' + 1) (by omega)
theorem s_cRcond (hB' : p_B X') (hS' : p_S I') (hT' : t_TP β n' e00' I') : t_CB X' I' n' 6 (fun b' M' => R_X5_readCondition 60 0 49 0 b' M') (t_cndO β n' (t_unt β n' 6)) := by
  refine s_ccond (k' := 6) (a' := 2 * 6 + 4 + 1) hB' hT' (U' := t_lpB β n' (t_unt β n' 6) 38 (-14)) ?_ ?_
  · exact fun b' e' he' hb' => t_GRlpB (nb' := 2 * 6 + 3) (fun b' e' he' hb' => t_GRunt 6 b' e' he' hb') (.inl rfl) b' e' he' hb'
  · refine s_ctruth (k' := 6) (a' := 2 * 6 + 4) hB' hT' (fun b' e' he' hb' => t_GRunt 6 b' e' he' hb') ?_
    exact s_cRunit hB' hS' hT' 6 (by omega) 58 (by omega)
end PL'
