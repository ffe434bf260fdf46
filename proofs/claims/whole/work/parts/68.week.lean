/-! a WEEK's text -/
def t_t5 : Nat → Nat := t_gl0 [100, 99, 105, 117, 120]
def t_stp (β : Nat → Nat) (n' e' : Nat) : Nat ⊕ (Nat × Int32 × Int32 × Int32) := match t_pa β n' t_t5 5 (t_sk β n' e') with
  | none => .inl (t_sk β n' e')
  | some k' => if k' = 1 then (if t_dg β n' (t_sk β n' (t_sk β n' e' + 1)) = true then .inr (t_sk β n' (t_sk β n' e' + 1) + 1, Int32.ofNat k', Int32.ofNat (β (t_sk β n' (t_sk β n' e' + 1)) - 48), -1) else .inl (t_sk β n' (t_sk β n' e' + 1)))
    else if k' = 4 then (if t_dg β n' (t_sk β n' (t_sk β n' e' + 1)) = true then (if t_dg β n' (t_sk β n' (t_sk β n' (t_sk β n' e' + 1) + 1)) = true then .inr (t_sk β n' (t_sk β n' (t_sk β n' e' + 1) + 1) + 1, Int32.ofNat k', Int32.ofNat (β (t_sk β n' (t_sk β n' e' + 1)) - 48), Int32.ofNat (β (t_sk β n' (t_sk β n' (t_sk β n' e' + 1) + 1)) - 48)) else .inl (t_sk β n' (t_sk β n' (t_sk β n' e' + 1) + 1))) else .inl (t_sk β n' (t_sk β n' e' + 1)))
    else .inr (t_sk β n' e' + 1, Int32.ofNat k', -1, -1)
def t_r3 (rows : Nat → Int32) (i' : Nat) (a' b' c' : Int32) (j' : Nat) : Int32 := if j' = 3 * i' then a' else if j' = 3 * i' + 1 then b' else if j' = 3 * i' + 2 then c' else rows j'
def t_wk (β : Nat → Nat) (n' : Nat) : Nat → Nat → Nat → (Nat → Int32) → Nat ⊕ (Nat × (Nat → Int32))
  | 0, e', _, _ => .inl e'
  | f' + 1, e', i', rows => match t_stp β n' e' with
    | .inl x' => .inl x'
    | .inr (x', a', b', c') => if t_sk β n' x' < n' then (if i' + 1 = 16 then .inl (t_sk β n' x') else if β (t_sk β n' x') = 59 then t_wk β n' f' (t_sk β n' x' + 1) (i' + 1) (t_r3 rows i' a' b' c') else .inl (t_sk β n' x')) else .inr (i' + 1, t_r3 rows i' a' b' c')
theorem t_sh20 {X' : p_X} {I' : p_I} (hB' : p_B X') (hS' : p_S I') : t_SH 20 t_t5 5 I' X' := t_SHof hS' 8 5 (by decide) (sh_20 hB') (rf_20 hB') (sh_21 hB') _ (by decide) (by decide) (by decide) (by decide)
theorem t_sh28 {X' : p_X} {I' : p_I} (hB' : p_B X') (hS' : p_S I') : t_SH 28 t_t5 5 I' X' := t_SHof hS' 12 5 (by decide) (sh_28 hB') (rf_28 hB') (sh_29 hB') _ (by decide) (by decide) (by decide) (by decide)
theorem p_lpE {σ ε : Type} {body : σ → Option (σ ⊕ ε)} {s' : σ} {e' : ε} {m' : Nat} (h' : body s' = some (.inr e')) : q_lp body (m' + 1) s' = some e' := by
  rw [q_lp, h']; rfl
theorem p_lpC {σ ε : Type} {body : σ → Option (σ ⊕ ε)} {s' t' : σ} {m' : Nat} (h' : body s' = some (.inl t')) : q_lp body (m' + 1) s' = q_lp body m' t' := by
  rw [q_lp, h']; rfl
theorem p_fu : q_fu = 99997 + 1 + 1 + 1 := rfl
/-- the class in the middle of a week: the draft at wd -/
def t_WS (wd' : Nat) (X' : p_X) : Prop := X'.2.2[wd']? = some (.inl 10) ∧ X'.2.1 wd' 0 = wd' + 1 + 1 ∧ X'.2.2[wd' + 1]? = some (.inr (0, 48)) ∧ 85 ≤ wd' ∧ (wd' = 85 ∨ 109 ≤ wd')
def t_CW (I' : p_I) (wd' e' i' : Nat) (rows : Nat → Int32) (J' : p_I) : Prop := (∀ c', c' ≠ 37 → c' ≠ wd' → c' ≠ wd' + 1 → J' c' = I' c') ∧ (∀ j', j' ≠ 2 → j' ≠ 3 → J' 37 j' = I' 37 j') ∧ J' 37 2 = Int32.ofNat e' ∧ J' wd' 1 = Int32.ofNat i' ∧ (∀ j', j' < 3 * i' → J' (wd' + 1) j' = rows j')
def t_CV (I' : p_I) (wd' e' : Nat) (J' : p_I) : Prop := (∀ c', c' ≠ 37 → c' ≠ wd' → c' ≠ wd' + 1 → J' c' = I' c') ∧ (∀ j', j' ≠ 2 → j' ≠ 3 → J' 37 j' = I' 37 j') ∧ J' 37 2 = Int32.ofNat e'
theorem t_CVp {I' J' K' : p_I} {wd' e' e'' : Nat} (h' : t_CV I' wd' e' J') (h2' : t_PE J' e'' K') : t_CV I' wd' e'' K' := ⟨fun c' h3' h4' h5' => by rw [h2'.1 c' h3', h'.1 c' h3' h4' h5'], fun j' h3' h4' => by rw [h2'.2.1 j' h3' h4', h'.2.1 j' h3' h4'], h2'.2.2⟩
theorem t_CVu {I' J' : p_I} {wd' e' j' : Nat} {v' : Int32} (hw' : 85 ≤ wd') (h' : t_CV I' wd' e' J') : t_CV I' wd' e' (q_u2 J' (wd' + 1) j' v') := ⟨fun c' h3' h4' h5' => by rw [p_uc _ _ _ _ _ h5']; exact h'.1 c' h3' h4' h5', fun j' h3' h4' => by rw [p_un _ _ _ _ _ _ (by omega)]; exact h'.2.1 j' h3' h4', by rw [p_un _ _ _ _ _ _ (by omega)]; exact h'.2.2⟩
theorem t_TPv {β : Nat → Nat} {n' e' e'' : Nat} {I' J' : p_I} {wd' : Nat} (hT' : t_TP β n' e' I') (h' : t_CV I' wd' e'' J') (hw' : 85 ≤ wd') (he' : e'' ≤ n') : t_TP β n' e'' J' := by
  obtain ⟨a1', a2', a3', a4', a5', a6'⟩ := hT'
  exact ⟨by rw [h'.2.1 1 (by decide) (by decide)]; exact a1', h'.2.2, fun i' hi' => by rw [h'.1 38 (by decide) (by omega) (by omega)]; exact a3' i' hi', a4', he', a6'⟩
section PW'
variable {X' : p_X} {I' J' : p_I} {β : Nat → Nat} {n' e' wd' : Nat}
theorem s_stepD (hB' : p_B X') {e0' : Nat} (hT' : t_TP β n' e0' I') (hw' : t_WS wd' X') (hC' : t_CV I' wd' e' J') (he' : e' ≤ n') {fr' w' k' dc' : Nat} (hdc' : J' 3 w' = Int32.ofNat dc') (hw5' : w' < 5) (hk' : k' ≤ dc') (hdc2' : dc' ≤ 2) (hf' : fr' + k' < 48) :
    (t_dg β n' (t_sk β n' e') = false ∧ ∃ J'', B_X10_readStep_63 wd' 37 (Int32.ofNat fr') (Int32.ofNat w') (Int32.ofNat k') (J', X') = some (.inr (.inl (J'', X'))) ∧ t_CV I' wd' (t_sk β n' e') J'') ∨
    (t_dg β n' (t_sk β n' e') = true ∧ ∃ J'', B_X10_readStep_63 wd' 37 (Int32.ofNat fr') (Int32.ofNat w') (Int32.ofNat k') (J', X') = some (.inl (Int32.ofNat (k' + 1), (q_u2 J'' (wd' + 1) (fr' + k') (Int32.ofNat (β (t_sk β n' e') - 48)), X'))) ∧ t_CV I' wd' (t_sk β n' e' + 1) J'' ∧ J'' (wd' + 1) = J' (wd' + 1) ∧ J'' wd' = J' wd' ∧ J'' 3 = J' 3) := by
  obtain ⟨w1', w2', w3', w4', w5'⟩ := hw'
  have hnk' : ¬ dc' < k' := by omega
  unfold B_X10_readStep_63
  rcases s_readDigit hB' (t_TPv hT' hC' w4' he') with ⟨d1', J'', d2', d3'⟩ | ⟨d1', J'', d2', d3', d4'⟩
  · left
    simp (disch := omega) only [↓ce_3 hB', ↓ce_37 hB', rf_37 hB', ↓nn_39, p_bs, p_rq0, p_rq1, p_rz0, p_rz1, p_us, p_un, p_uj, ↓reduceIte, hdc', p_lt, hnk', d2']
    exact ⟨d1', J'', rfl, t_CVp hC' d3'⟩
  · right
    simp (disch := omega) only [↓ce_3 hB', ↓ce_37 hB', hdc', p_lt, hnk', ↓reduceIte, d2', p_bs, show ((1 : Int32) = 0) = False from by decide, p_gR w1', w2', p_nns, d4', p_ar, p_tI w3' (by decide) (show q_NS ≤ wd' + 1 by unfold q_NS; omega)]
    exact ⟨d1', J'', rfl, t_CVp hC' d3', d3'.1 _ (by omega), d3'.1 _ (by omega), d3'.1 _ (by decide)⟩
theorem s_cstep (hB' : p_B X') (hS' : p_S I') {e0' : Nat} (hT' : t_TP β n' e0' I') (hw' : t_WS wd' X') {i' : Nat} {rows : Nat → Int32} (hC' : t_CW I' wd' e' i' rows J') (he' : e' ≤ n') (hi' : i' < 16) :
    (∃ x' J'', t_stp β n' e' = .inl x' ∧ F_X10_readStep wd' 37 (Int32.ofNat (i' * 3)) (J', X') = some (0, (J'', X')) ∧ t_CV I' wd' x' J'' ∧ x' ≤ n') ∨
    (∃ x' a' b' c' J'', t_stp β n' e' = .inr (x', a', b', c') ∧ F_X10_readStep wd' 37 (Int32.ofNat (i' * 3)) (J', X') = some (1, (J'', X')) ∧ t_CV I' wd' x' J'' ∧ J'' wd' 1 = Int32.ofNat i' ∧ (∀ j', j' < 3 * (i' + 1) → J'' (wd' + 1) j' = t_r3 rows i' a' b' c' j') ∧ x' ≤ n') := by
  have hw'' := hw'
  obtain ⟨w1', w2', w3', w4', w5'⟩ := hw'
  obtain ⟨c1', c2', c3', c4', c5'⟩ := hC'
  have hV' : t_CV I' wd' e' J' := ⟨c1', c2', c3'⟩
  have hT1' := t_TPv hT' hV' w4' he'
  have hS1' : p_S J' := fun k' hk' => by rw [c1' k' (by omega) (by omega) (by omega)]; exact hS' k' hk'
  obtain ⟨J1', b1', b2'⟩ := s_peekAmong hB' hT1' (t_sh20 hB' hS1') (by decide) (by decide)
  have hU' := t_skU β n' e' he'
  have hV1' := t_CVp hV' b2'
  have hi3' : i' * 3 + 2 < 48 := by omega
  have k36' : q_NS ≤ wd' + 1 := by unfold q_NS; omega
  unfold F_X10_readStep t_stp
  simp (disch := omega) only [↓ce_37 hB', rf_37 hB', ↓nn_39, p_bs, p_rq0, p_rq1, p_rz0, p_rz1, p_us, p_un, p_uj, ↓reduceIte, b1']
  cases hpa' : t_pa β n' t_t5 5 (t_sk β n' e') with
  | none =>
    left
    simp only [t_nx, ↓reduceIte, p_rz0]
    exact ⟨_, J1', rfl, rfl, hV1', hU'⟩
  | some k' =>
    obtain ⟨p1', p2', p3'⟩ := t_paB hpa'
    have q1' := t_PEu (e'' := t_sk β n' e' + 1) b2'
    have hV2' := t_CVp hV' q1'
    simp (disch := omega) only [t_nxS, p_ofN1, ↓reduceIte, p_gR w1', w2', p_nns, p_al w3' (show (0 : Nat) < 6 by decide), p_ar, p_lt, hi3', ↓ce_37 hB', b2'.2.2, p_tI w3' (by decide) k36']
    generalize hJ4' : q_u2 (q_u2 (q_u2 (q_u2 J1' 37 2 (Int32.ofNat (t_sk β n' e' + 1))) (wd' + 1) (i' * 3) (Int32.ofNat k')) (wd' + 1) (i' * 3 + 1) (-1)) (wd' + 1) (i' * 3 + 2) (-1) = J4'
    have hV4' : t_CV I' wd' (t_sk β n' e' + 1) J4' := by rw [← hJ4']; exact t_CVu w4' (t_CVu w4' (t_CVu w4' hV2'))
    have s3' : J4' 3 = J1' 3 := by
      rw [← hJ4']
      simp (disch := omega) only [p_uc]
    have m4' : J4' wd' 1 = Int32.ofNat i' := by
      rw [← hJ4']
      simp (disch := omega) only [p_un]
      rw [b2'.1 wd' (by omega)]
      exact c4'
    have r4' : ∀ j', j' < 3 * (i' + 1) → J4' (wd' + 1) j' = t_r3 rows i' (Int32.ofNat k') (-1) (-1) j' := by
      intro j' hj'
      rw [← hJ4']
      unfold t_r3
      by_cases e0' : j' = 3 * i'
      · subst e0'; rw [if_pos rfl]; simp (disch := omega) only [p_uj]; rw [Nat.mul_comm, p_us]
      · rw [if_neg e0']
        by_cases e1' : j' = 3 * i' + 1
        · subst e1'; rw [if_pos rfl]; simp (disch := omega) only [p_uj]; rw [Nat.mul_comm, p_us]
        · rw [if_neg e1']
          by_cases e2' : j' = 3 * i' + 2
          · subst e2'; rw [if_pos rfl, Nat.mul_comm, p_us]
          · rw [if_neg e2']
            simp (disch := omega) only [p_uj]
            rw [p_uc _ _ _ _ _ (by omega), b2'.1 _ (by omega)]
            exact c5' j' (by omega)
    have st3' : ∀ w', J4' 3 w' = t_stc 3 w' := fun w' => by rw [s3', b2'.1 3 (by decide), hS1' 3 (by decide)]
    rw [p_fu]
    have hk5' : k' = 0 ∨ k' = 1 ∨ k' = 2 ∨ k' = 3 ∨ k' = 4 := by omega
    have none0 : ∀ w', (J4' 3 w' = Int32.ofNat 0) → w' < 5 → B_X10_readStep_63 wd' 37 (Int32.ofNat (i' * 3)) (Int32.ofNat w') 1 (J4', X') = some (.inr (.inr (J4', X'))) := by
      intro w' hw0' hw5'
      unfold B_X10_readStep_63
      simp (disch := omega) only [↓ce_3 hB', p_bs, p_rq0, p_rq1, p_rz0, p_rz1, p_us, p_un, p_uj, ↓reduceIte, hw0', p_cm, show (0 : Nat) < 1 from by decide]
    rcases hk5' with rfl | rfl | rfl | rfl | rfl
    · right
      have := none0 0 (by rw [st3']; rfl) (by decide)
      rw [p_lpE (e' := .inr (J4', X')) this]
      simp only [p_bs, p_rz1]
      exact ⟨_, _, _, _, J4', rfl, rfl, hV4', m4', r4', by omega⟩
    · -- one digit
      have hdc' : J4' 3 1 = Int32.ofNat 1 := by rw [st3']; rfl
      rcases s_stepD (fr' := i' * 3) (w' := 1) (k' := 1) (dc' := 1) hB' hT' hw'' hV4' (by omega) hdc' (by decide) (by decide) (by decide) (by omega) with ⟨d1', J5', d2', d3'⟩ | ⟨d1', J5', d2', d3', d4', d5', d6'⟩
      · left
        rw [p_lpE (e' := .inl (J5', X')) d2', d1']
        simp only [p_bs, p_rz0, Bool.false_eq_true, ↓reduceIte]
        exact ⟨_, J5', rfl, rfl, d3', t_skU β n' _ (by omega)⟩
      · right
        have hl' := (t_dgE d1').1
        rw [p_lpC d2']
        have hend : B_X10_readStep_63 wd' 37 (Int32.ofNat (i' * 3)) (Int32.ofNat 1) (Int32.ofNat (1 + 1)) (q_u2 J5' (wd' + 1) (i' * 3 + 1) (Int32.ofNat (β (t_sk β n' (t_sk β n' e' + 1)) - 48)), X') = some (.inr (.inr (q_u2 J5' (wd' + 1) (i' * 3 + 1) (Int32.ofNat (β (t_sk β n' (t_sk β n' e' + 1)) - 48)), X'))) := by
          unfold B_X10_readStep_63
          have : q_u2 J5' (wd' + 1) (i' * 3 + 1) (Int32.ofNat (β (t_sk β n' (t_sk β n' e' + 1)) - 48)) 3 1 = Int32.ofNat 1 := by rw [p_un _ _ _ _ _ _ (by omega), d6']; exact hdc'
          simp (disch := omega) only [↓ce_3 hB', p_bs, p_rq0, p_rq1, p_rz0, p_rz1, p_us, p_un, p_uj, ↓reduceIte, this, p_lt, show (1 : Nat) < 1 + 1 from by decide]
        rw [p_lpE (e' := .inr _) hend, d1']
        simp only [p_bs, p_rz1, ↓reduceIte]
        refine ⟨_, _, _, _, _, rfl, rfl, t_CVu w4' d3', ?_, ?_, by omega⟩
        · rw [p_un _ _ _ _ _ _ (by omega), d5']; exact m4'
        · intro j' hj'
          have hr' := r4' j' hj'
          unfold t_r3 at hr' ⊢
          by_cases e1' : j' = i' * 3 + 1
          · subst e1'; rw [p_us, if_neg (by omega), if_pos (by omega)]
          · rw [p_uj _ _ _ _ _ e1', d4', hr', if_neg (show ¬ j' = 3 * i' + 1 by omega), if_neg (show ¬ j' = 3 * i' + 1 by omega)]
    · right
      have := none0 2 (by rw [st3']; rfl) (by decide)
      rw [p_lpE (e' := .inr (J4', X')) this]
      simp only [p_bs, p_rz1]
      exact ⟨_, _, _, _, J4', rfl, rfl, hV4', m4', r4', by omega⟩
    · right
      have := none0 3 (by rw [st3']; rfl) (by decide)
      rw [p_lpE (e' := .inr (J4', X')) this]
      simp only [p_bs, p_rz1]
      exact ⟨_, _, _, _, J4', rfl, rfl, hV4', m4', r4', by omega⟩
    · -- two digits
      have hdc' : J4' 3 4 = Int32.ofNat 2 := by rw [st3']; rfl
      rcases s_stepD (fr' := i' * 3) (w' := 4) (k' := 1) (dc' := 2) hB' hT' hw'' hV4' (by omega) hdc' (by decide) (by decide) (by decide) (by omega) with ⟨d1', J5', d2', d3'⟩ | ⟨d1', J5', d2', d3', d4', d5', d6'⟩
      · left
        rw [p_lpE (e' := .inl (J5', X')) d2', d1']
        simp only [p_bs, p_rz0, Bool.false_eq_true, ↓reduceIte]
        exact ⟨_, J5', rfl, rfl, d3', t_skU β n' _ (by omega)⟩
      · have hl' := (t_dgE d1').1
        rw [p_lpC d2']
        have hdc2' : q_u2 J5' (wd' + 1) (i' * 3 + 1) (Int32.ofNat (β (t_sk β n' (t_sk β n' e' + 1)) - 48)) 3 4 = Int32.ofNat 2 := by rw [p_un _ _ _ _ _ _ (by omega), d6']; exact hdc'
        rcases s_stepD (fr' := i' * 3) (w' := 4) (k' := 1 + 1) (dc' := 2) hB' hT' hw'' (t_CVu (j' := i' * 3 + 1) (v' := Int32.ofNat (β (t_sk β n' (t_sk β n' e' + 1)) - 48)) w4' d3') (by omega) hdc2' (by decide) (by decide) (by decide) (by omega) with ⟨g1', J6', g2', g3'⟩ | ⟨g1', J6', g2', g3', g4', g5', g6'⟩
        · left
          rw [p_lpE (e' := .inl (J6', X')) g2', d1', g1']
          simp only [p_bs, p_rz0, Bool.false_eq_true, ↓reduceIte]
          exact ⟨_, J6', rfl, rfl, g3', t_skU β n' _ (by omega)⟩
        · right
          have hl2' := (t_dgE g1').1
          rw [p_lpC g2']
          have hend : B_X10_readStep_63 wd' 37 (Int32.ofNat (i' * 3)) (Int32.ofNat 4) (Int32.ofNat (1 + 1 + 1)) (q_u2 J6' (wd' + 1) (i' * 3 + (1 + 1)) (Int32.ofNat (β (t_sk β n' (t_sk β n' (t_sk β n' e' + 1) + 1)) - 48)), X') = some (.inr (.inr (q_u2 J6' (wd' + 1) (i' * 3 + (1 + 1)) (Int32.ofNat (β (t_sk β n' (t_sk β n' (t_sk β n' e' + 1) + 1)) - 48)), X'))) := by
            unfold B_X10_readStep_63
            have : q_u2 J6' (wd' + 1) (i' * 3 + (1 + 1)) (Int32.ofNat (β (t_sk β n' (t_sk β n' (t_sk β n' e' + 1) + 1)) - 48)) 3 4 = Int32.ofNat 2 := by rw [p_un _ _ _ _ _ _ (by omega), g6']; exact hdc2'
            simp (disch := omega) only [↓ce_3 hB', p_bs, p_rq0, p_rq1, p_rz0, p_rz1, p_us, p_un, p_uj, ↓reduceIte, this, p_lt, show (2 : Nat) < 1 + 1 + 1 from by decide]
          rw [p_lpE (e' := .inr _) hend, d1', g1']
          simp only [p_bs, p_rz1, ↓reduceIte]
          refine ⟨_, _, _, _, _, rfl, rfl, t_CVu w4' g3', ?_, ?_, by omega⟩
          · rw [p_un _ _ _ _ _ _ (by omega), g5', p_un _ _ _ _ _ _ (by omega), d5']; exact m4'
          · intro j' hj'
            have hr' := r4' j' hj'
            unfold t_r3 at hr' ⊢
            by_cases e2' : j' = i' * 3 + 2
            · subst e2'; rw [show i' * 3 + (1 + 1) = i' * 3 + 2 from rfl, p_us, if_neg (by omega), if_neg (by omega), if_pos (by omega)]
            · rw [p_uj _ _ _ _ _ (by omega), g4']
              by_cases e1' : j' = i' * 3 + 1
              · subst e1'; rw [p_us, if_neg (by omega), if_pos (by omega)]
              · rw [p_uj _ _ _ _ _ e1', d4', hr', if_neg (show ¬ j' = 3 * i' + 1 by omega), if_neg (show ¬ j' = 3 * i' + 1 by omega), if_neg (show ¬ j' = 3 * i' + 2 by omega), if_neg (show ¬ j' = 3 * i' + 2 by omega)]
theorem s_weekFrom (hB' : p_B X') (hS' : p_S I') (hT' : t_TP β n' 0 I') (hw' : t_WS wd' X') :
    (∃ x' J'', t_wk β n' 16 0 0 (fun _ => 0) = .inl x' ∧ F_X10_readFrom wd' 37 (I', X') = some (0, (J'', X')) ∧ t_CV I' wd' x' J'' ∧ x' ≤ n') ∨
    (∃ x' i' rows J'', t_wk β n' 16 0 0 (fun _ => 0) = .inr (i', rows) ∧ F_X10_readFrom wd' 37 (I', X') = some (1, (J'', X')) ∧ t_CW I' wd' x' i' rows J'' ∧ i' ≤ 16) := by
  have hw'' := hw'
  obtain ⟨w1', w2', w3', w4', w5'⟩ := hw'
  have k36' : q_NS ≤ wd' := by unfold q_NS; omega
  have hC0' : t_CW I' wd' 0 0 (fun _ => 0) (q_u2 I' wd' 1 0) := ⟨fun c' h3' h4' h5' => by rw [p_uc _ _ _ _ _ h4'], fun j' h3' h4' => by rw [p_un _ _ _ _ _ _ (by omega)], by rw [p_un _ _ _ _ _ _ (by omega)]; exact hT'.2.1, by rw [p_us]; rfl, fun j' hj' => absurd hj' (by omega)⟩
  obtain ⟨z', h1', h2'⟩ := p_lp (fun z' => B_X10_readFrom_7 wd' 37 z'.1 z'.2)
    (fun i' z' => ∃ J' e1' rows, z' = (Int32.ofNat i', (J', X')) ∧ t_CW I' wd' e1' i' rows J' ∧ e1' ≤ n' ∧ t_wk β n' (16 - i') e1' i' rows = t_wk β n' 16 0 0 (fun _ => 0))
    (fun z' => (∃ x' J', t_wk β n' 16 0 0 (fun _ => 0) = .inl x' ∧ (z' = .inl (J', X') ∨ z' = .inr (.inr (.inl (J', X'))) ∨ z' = .inr (.inr (.inr (J', X')))) ∧ t_CV I' wd' x' J' ∧ x' ≤ n') ∨ (∃ x' i' rows J', t_wk β n' 16 0 0 (fun _ => 0) = .inr (i', rows) ∧ z' = .inr (.inl (J', X')) ∧ t_CW I' wd' x' i' rows J' ∧ i' ≤ 16)) 16 (by
      rintro i' z' hi' ⟨J', e1', rows, rfl, j1', j2', j3'⟩
      unfold B_X10_readFrom_7
      by_cases hlt' : i' < 16
      · rw [show 16 - i' = (16 - (i' + 1)) + 1 by omega, t_wk] at j3'
        simp (disch := omega) only [p_cm, hlt', ↓reduceIte, p_ob w1', p_ar]
        rcases s_cstep hB' hS' hT' hw'' j1' j2' hlt' with ⟨x', J1', d1', d2', d3', d4'⟩ | ⟨x', a', b', c', J1', d1', d2', d3', d4', d5', d6'⟩
        · right
          rw [d1'] at j3'
          simp only [d2', p_bs, ↓reduceIte]
          exact ⟨_, rfl, .inl ⟨x', J1', j3'.symm, .inl rfl, d3', d4'⟩⟩
        · rw [d1'] at j3'
          simp only at j3'
          have hV2' : t_CV I' wd' x' (q_u2 J1' wd' 1 (Int32.ofNat (i' + 1))) := ⟨fun c' h3' h4' h5' => by rw [p_uc _ _ _ _ _ h4']; exact d3'.1 c' h3' h4' h5', fun j' h3' h4' => by rw [p_un _ _ _ _ _ _ (by omega)]; exact d3'.2.1 j' h3' h4', by rw [p_un _ _ _ _ _ _ (by omega)]; exact d3'.2.2⟩
          obtain ⟨J2', b1', b2', -⟩ := s_peek hB' (t_TPv hT' hV2' w4' d6')
          have hU' := t_skU β n' x' d6'
          have hV3' := t_CVp hV2' b2'
          have m3' : J2' wd' 1 = Int32.ofNat (i' + 1) := by rw [b2'.1 wd' (by omega), p_us]
          have r3' : ∀ j', j' < 3 * (i' + 1) → J2' (wd' + 1) j' = t_r3 rows i' a' b' c' j' := fun j' hj' => by rw [b2'.1 _ (by omega), p_un _ _ _ _ _ _ (by omega)]; exact d5' j' hj'
          simp (disch := omega) only [d2', p_bs, show ((1 : Int32) = 0) = False from by decide, ↓reduceIte, p_gI w1', d4', p_ar, p_pI w1' k36', ↓ce_37 hB', b1', t_sgN2 hT'.2.2.2.2.2, m3', p_cm]
          by_cases hx' : t_sk β n' x' < n'
          · rw [if_pos hx'] at j3'
            simp only [hx', not_true_eq_false, ↓reduceIte]
            by_cases h16' : i' + 1 = 16
            · right
              rw [if_pos h16'] at j3'
              simp only [h16', ↓reduceIte]
              exact ⟨_, rfl, .inl ⟨_, J2', j3'.symm, .inr (.inl rfl), hV3', hU'⟩⟩
            · rw [if_neg h16'] at j3'
              obtain ⟨J3', b3', b4'⟩ := s_take hB' (t_TPv hT' hV3' w4' hU') 59 (by decide)
              rw [t_skk] at b3' b4'
              have b3'' : F_X9_take 37 59 (J2', X') = some (t_b (t_is β n' (t_sk β n' x') 59), (J3', X')) := b3'
              simp only [h16', ↓reduceIte, b3'', p_bs, t_b0]
              by_cases h59' : β (t_sk β n' x') = 59
              · left
                rw [if_pos h59'] at j3'
                have hy' : t_is β n' (t_sk β n' x') 59 = true := by simp [t_is, hx', h59']
                rw [hy', if_pos rfl] at b4'
                simp only [hy', Bool.true_eq_false, ↓reduceIte]
                have hV4' := t_CVp hV3' b4'
                exact ⟨_, rfl, True.intro, J3', _, _, rfl, ⟨hV4'.1, hV4'.2.1, hV4'.2.2, by rw [b4'.1 wd' (by omega)]; exact m3', by rw [b4'.1 _ (by omega)]; exact r3'⟩, by omega, j3'⟩
              · right
                rw [if_neg h59'] at j3'
                have hy' : t_is β n' (t_sk β n' x') 59 = false := by simp [t_is, h59']
                rw [hy', if_neg (by decide)] at b4'
                simp only [hy', ↓reduceIte]
                exact ⟨_, rfl, .inl ⟨_, J3', j3'.symm, .inr (.inl rfl), t_CVp hV3' b4', hU'⟩⟩
          · right
            rw [if_neg hx'] at j3'
            simp only [hx', not_false_eq_true, ↓reduceIte]
            exact ⟨_, rfl, .inr ⟨_, i' + 1, _, J2', j3'.symm, rfl, ⟨hV3'.1, hV3'.2.1, hV3'.2.2, m3', r3'⟩, by omega⟩⟩
      · right
        have hi'' : i' = 16 := by omega
        subst hi''
        rw [Nat.sub_self, t_wk] at j3'
        simp (disch := omega) only [p_bs, p_rq0, p_rq1, p_rz0, p_rz1, p_us, p_un, p_uj, ↓reduceIte, p_cm, Nat.lt_irrefl]
        exact ⟨_, rfl, .inl ⟨e1', J', j3'.symm, .inr (.inr rfl), ⟨j1'.1, j1'.2.1, j1'.2.2.1⟩, j2'⟩⟩) 16 0 q_fu (0, (q_u2 I' wd' 1 0, X')) (by omega) (by unfold q_fu; omega) ⟨_, 0, (fun _ => 0), rfl, hC0', by omega, rfl⟩
  unfold F_X10_readFrom
  rw [p_pI w1' k36', h1']
  simp only [p_bs]
  rcases h2' with ⟨x', J', c1', c2', c3', c4'⟩ | ⟨x', i', rows, J', c1', rfl, c3', c4'⟩
  · left
    refine ⟨x', J', c1', ?_, c3', c4'⟩
    rcases c2' with rfl | rfl | rfl <;> rfl
  · right
    exact ⟨x', i', rows, J', c1', rfl, c3', c4'⟩
end PW'
