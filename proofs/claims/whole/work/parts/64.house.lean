/-! the class's reader of a HOUSE, whole -/
theorem t_SHof {X' : p_X} {I' : p_I} (hS' : p_S I') (i' m' : Nat) (hi' : i' < 15) (h1' : X'.2.2[4 + 2 * i']? = some (.inl 14)) (h2' : X'.2.1 (4 + 2 * i') 0 = 4 + 2 * i' + 1 + 1) (h3' : X'.2.2[4 + 2 * i' + 1]? = some (.inr (1, m'))) (ts' : Nat → Nat) (h4' : ∀ j', j' < m' → (q_txts.getD i' []).getD j' 0 = Int32.ofNat (ts' j')) (h5' : ∀ j', j' < m' → ts' j' < 128) (h0' : 0 < m') (h6' : m' < 100) : t_SH (4 + 2 * i') ts' m' I' X' := by
  refine ⟨h1', h2', h3', ?_, ?_, h5', h0', h6'⟩
  · rw [hS' _ (by omega)]
    unfold t_stc
    rw [if_neg (by omega), if_pos (by omega)]
  · intro j' hj'
    rw [hS' _ (by omega)]
    unfold t_stc
    rw [if_neg (by omega), if_neg (by omega), show (4 + 2 * i' + 1 - 5) / 2 = i' by omega]
    exact h4' j' hj'
section PH'
variable {X' : p_X} {I' : p_I}
theorem t_sh4 (hB' : p_B X') (hS' : p_S I') : t_SH 4 t_K0.1 t_K0.2.1 I' X' := t_SHof hS' 0 3 (by decide) (sh_4 hB') (rf_4 hB') (sh_5 hB') _ (by decide) (by decide) (by decide) (by decide)
theorem t_sh6 (hB' : p_B X') (hS' : p_S I') : t_SH 6 t_K1.1 t_K1.2.1 I' X' := t_SHof hS' 1 3 (by decide) (sh_6 hB') (rf_6 hB') (sh_7 hB') _ (by decide) (by decide) (by decide) (by decide)
theorem t_sh8 (hB' : p_B X') (hS' : p_S I') : t_SH 8 t_K2.1 t_K2.2.1 I' X' := t_SHof hS' 2 4 (by decide) (sh_8 hB') (rf_8 hB') (sh_9 hB') _ (by decide) (by decide) (by decide) (by decide)
theorem t_sh22 (hB' : p_B X') (hS' : p_S I') : t_SH 22 t_K0.1 t_K0.2.1 I' X' := t_SHof hS' 9 3 (by decide) (sh_22 hB') (rf_22 hB') (sh_23 hB') _ (by decide) (by decide) (by decide) (by decide)
theorem t_sh24 (hB' : p_B X') (hS' : p_S I') : t_SH 24 t_K1.1 t_K1.2.1 I' X' := t_SHof hS' 10 3 (by decide) (sh_24 hB') (rf_24 hB') (sh_25 hB') _ (by decide) (by decide) (by decide) (by decide)
theorem t_sh26 (hB' : p_B X') (hS' : p_S I') : t_SH 26 t_K2.1 t_K2.2.1 I' X' := t_SHof hS' 11 4 (by decide) (sh_26 hB') (rf_26 hB') (sh_27 hB') _ (by decide) (by decide) (by decide) (by decide)
theorem t_gl0B (l' : List Nat) (h' : ∀ x' ∈ l', x' < 1000) (k' : Nat) : t_gl0 l' k' < 1000 := by
  unfold t_gl0
  rw [List.getD_eq_getElem?_getD]
  cases hx' : l'[k']? with
  | none => show (0 : Nat) < 1000; decide
  | some y' => exact h' y' (List.mem_of_getElem? hx')
theorem t_bk0 (hB' : p_B X') (hS' : p_S I') : t_BK 0 t_K0 I' X' := ⟨sh_0 hB', by decide, by decide, by rw [hS' 0 (by decide)]; decide, fun k' => ⟨t_gl0B _ (by decide) k', t_gl0B _ (by decide) k'⟩⟩
theorem t_bk1 (hB' : p_B X') (hS' : p_S I') : t_BK 1 t_K1 I' X' := ⟨sh_1 hB', by decide, by decide, by rw [hS' 1 (by decide)]; decide, fun k' => ⟨t_gl0B _ (by decide) k', t_gl0B _ (by decide) k'⟩⟩
theorem t_bk2 (hB' : p_B X') (hS' : p_S I') : t_BK 2 t_K2 I' X' := ⟨sh_2 hB', by decide, by decide, by rw [hS' 2 (by decide)]; decide, fun k' => ⟨t_gl0B _ (by decide) k', t_gl0B _ (by decide) k'⟩⟩
end PH'
/-- the class: between clauses -/
def t_CH (I' : p_I) (e' : Nat) (h' : t_hs) (J' : p_I) : Prop := (∀ c', c' ≠ 37 → ¬ (44 ≤ c' ∧ c' ≤ 47) → J' c' = I' c') ∧ (∀ j', j' ≠ 2 → j' ≠ 3 → J' 37 j' = I' 37 j') ∧ J' 37 2 = Int32.ofNat e' ∧ (∀ k', k' < 3 → J' 45 k' = Int32.ofNat (h'.1 k')) ∧ (∀ j', j' < 3 * h'.2.2.2.1 → J' 46 j' = Int32.ofNat (h'.2.1 j')) ∧ (∀ j', j' < 4 * h'.2.2.2.2.1 → J' 47 j' = Int32.ofNat (h'.2.2.1 j')) ∧
  J' 44 4 = Int32.ofNat h'.2.2.2.1 ∧ J' 44 5 = Int32.ofNat h'.2.2.2.2.1 ∧ J' 44 6 = t_b h'.2.2.2.2.2 ∧ h'.2.2.2.1 ≤ 5 ∧ h'.2.2.2.2.1 ≤ 6 ∧ (∀ j', ¬ (4 ≤ j' ∧ j' ≤ 6) → J' 44 j' = I' 44 j')
def t_CY (I' : p_I) (e' : Nat) (J' : p_I) : Prop := (∀ c', c' ≠ 37 → ¬ (44 ≤ c' ∧ c' ≤ 47) → J' c' = I' c') ∧ (∀ j', j' ≠ 2 → j' ≠ 3 → J' 37 j' = I' 37 j') ∧ J' 37 2 = Int32.ofNat e'
theorem t_CHp {I' J' K' : p_I} {e' e'' : Nat} {h' : t_hs} (hh' : t_CH I' e' h' J') (h2' : t_PE J' e'' K') : t_CH I' e'' h' K' := by
  obtain ⟨a1', a2', a3', a4', a5', a6', a7', a8', a9', a10'⟩ := hh'
  exact ⟨fun c' h3' h4' => by rw [h2'.1 c' h3', a1' c' h3' h4'], fun j' h3' h4' => by rw [h2'.2.1 j' h3' h4', a2' j' h3' h4'], h2'.2.2, by rw [h2'.1 45 (by decide)]; exact a4', by rw [h2'.1 46 (by decide)]; exact a5', by rw [h2'.1 47 (by decide)]; exact a6', by rw [h2'.1 44 (by decide)]; exact a7', by rw [h2'.1 44 (by decide)]; exact a8', by rw [h2'.1 44 (by decide)]; exact a9', by rw [h2'.1 44 (by decide)]; exact a10'⟩
theorem t_CHy {I' J' : p_I} {e' : Nat} {h' : t_hs} (hh' : t_CH I' e' h' J') : t_CY I' e' J' := ⟨hh'.1, hh'.2.1, hh'.2.2.1⟩
theorem t_TPh {β : Nat → Nat} {n' e' e'' : Nat} {I' J' : p_I} {h' : t_hs} (hT' : t_TP β n' e' I') (hh' : t_CH I' e'' h' J') (he' : e'' ≤ n') : t_TP β n' e'' J' := by
  obtain ⟨a1', a2', a3', a4', a5', a6'⟩ := hT'
  exact ⟨by rw [hh'.2.1 1 (by decide) (by decide)]; exact a1', hh'.2.2.1, fun i' hi' => by rw [hh'.1 38 (by decide) (by omega)]; exact a3' i' hi', a4', he', a6'⟩
theorem t_isN {β : Nat → Nat} {n' e' x' y' : Nat} (h' : t_is β n' e' x' = true) (hxy' : x' ≠ y') : t_is β n' e' y' = false := by
  unfold t_is at *
  simp only [Bool.and_eq_true, decide_eq_true_eq] at h'
  simp [h'.2, hxy']
theorem t_putS (a' row' : Nat → Nat) (f' m' k' : Nat) (hk' : k' < m') : t_put a' f' m' row' (f' + k') = row' k' := by
  unfold t_put
  rw [if_pos ⟨by omega, by omega⟩, Nat.add_sub_cancel_left]
theorem t_putN (a' row' : Nat → Nat) (f' m' j' : Nat) (h' : j' < f') : t_put a' f' m' row' j' = a' j' := by
  unfold t_put
  rw [if_neg (by omega)]
section PH'
variable {X' : p_X} {I' J' : p_I} {β : Nat → Nat} {n' e' : Nat} {h' : t_hs}
theorem s_cclause (hB' : p_B X') (hS' : p_S I') {e0' : Nat} (hT' : t_TP β n' e0' I') (hC' : t_CH I' e' h' J') (he' : e' ≤ n') :
    (∃ x' J'', t_cla β n' e' h' = .inl x' ∧ F_X3_readClause 44 37 (J', X') = some (0, (J'', X')) ∧ t_CY I' x' J'' ∧ x' ≤ n') ∨
    (∃ x' h'' J'', t_cla β n' e' h' = .inr (x', h'') ∧ F_X3_readClause 44 37 (J', X') = some (1, (J'', X')) ∧ t_CH I' x' h'' J'' ∧ x' ≤ n') := by
  have hT1' := t_TPh hT' hC' he'
  obtain ⟨J1', b1', b2', -⟩ := s_peek hB' hT1'
  have hU' := t_skU β n' e' he'
  have c1' := t_CHp hC' b2'
  obtain ⟨rr', rd', rg', nd', ng', ru'⟩ := h'
  have q1' := t_PEu (e'' := t_sk β n' e' + 1) b2'
  have c2' := t_CHp hC' q1'
  obtain ⟨d1', d2', d3', d4', d5', d6', d7', d8', d9', d10', d11', d12'⟩ := id c2'
  obtain ⟨f1', f2', f3', f4', f5', f6', f7', f8', f9', f10', f11', f12'⟩ := id c1'
  try simp only at d4' d5' d6' d7' d8' d9' d10' d11' f4' f5' f6' f7' f8' f9' f10' f11'
  have hSk' : ∀ K' : p_I, (∀ c', c' < 34 → K' c' = J1' c') → p_S K' := fun K' hK' k' hk' => by rw [hK' k' hk', c1'.1 k' (by omega) (by omega)]; exact hS' k' hk'
  unfold F_X3_readClause t_cla
  try simp only
  rw [show (115 : Int32) = Int32.ofNat 115 from rfl]
  simp (disch := omega) only [↓ce_37 hB', rf_37 hB', ↓ce_44 hB', rf_44 hB', ↓nn_39, ↓nn_46, ↓nn_47, ↓nn_48, ↓nn_49, p_bs, p_rq0, p_rq1, p_rz0, p_rz1, p_us, p_un, p_uj, ↓reduceIte, b1', t_sgE2 hT'.2.2.2.2.2 _ _ (show (115 : Nat) < 256 by decide), t_isE, f9', t_b0, b2'.2.2, p_ar]
  by_cases hs' : t_is β n' (t_sk β n' e') 115 = true ∧ ru' = false
  · -- rules
    have hlt' : t_sk β n' e' < n' := by
      have := hs'.1
      unfold t_is at this
      simp only [Bool.and_eq_true, decide_eq_true_eq] at this
      exact this.1
    simp only [hs'.1, hs'.2, and_self, ↓reduceIte]
    have hM' : t_CH I' (t_sk β n' e' + 1) (rr', rd', rg', nd', ng', true) (q_u2 (q_u2 J1' 37 2 (Int32.ofNat (t_sk β n' e' + 1))) 44 6 1) := by
      refine ⟨?_, ?_, ?_, ?_, ?_, ?_, ?_, ?_, ?_, d10', d11', ?_⟩
      · intro c' h3' h4'; rw [p_uc _ _ _ _ _ (by omega)]; exact d1' c' h3' h4'
      · intro j' h3' h4'; rw [p_uc _ _ _ _ _ (by decide)]; exact d2' j' h3' h4'
      · rw [p_uc _ _ _ _ _ (by decide)]; exact d3'
      · rw [p_uc _ _ _ _ _ (by decide)]; exact d4'
      · rw [p_uc _ _ _ _ _ (by decide)]; exact d5'
      · rw [p_uc _ _ _ _ _ (by decide)]; exact d6'
      · rw [p_uj _ _ _ _ _ (by decide)]; exact d7'
      · rw [p_uj _ _ _ _ _ (by decide)]; exact d8'
      · rw [p_us]; rfl
      · intro j' hj'; rw [p_uj _ _ _ _ _ (by omega)]; exact d12' j' hj'
    have hS2' := hSk' (q_u2 (q_u2 J1' 37 2 (Int32.ofNat (t_sk β n' e' + 1))) 44 6 1) (fun c' hc' => by rw [p_uc _ _ _ _ _ (by omega), p_uc _ _ _ _ _ (by omega)])
    have hR' := s_readItems (β := β) (n' := n') (e' := t_sk β n' e' + 1) (K' := t_K0) (a' := 4) (bc' := 0) (rc' := 45) (from' := 0) (len' := 3) hB' (t_TPh hT' hM' (by omega)) (t_bk0 hB' hS2') (t_sh4 hB' hS2') (sh_45 hB') (by decide) (by decide) (by decide) (by decide) (by decide)
    rcases hR' with ⟨x', J2', g1', g2', g3', g4'⟩ | ⟨x', row', J2', g1', g2', g3', g4'⟩
    · left
      rw [g1']
      have g2'' : F_X3_readItems 37 4 0 45 0 (q_u2 (q_u2 J1' 37 2 (Int32.ofNat (t_sk β n' e' + 1))) 44 6 1, X') = some (0, (J2', X')) := g2'
      simp (disch := omega) only [↓ce_44 hB', rf_44 hB', ↓nn_46, ↓nn_47, ↓nn_48, ↓nn_49, p_bs, p_rq0, p_rq1, p_rz0, p_rz1, p_us, p_un, p_uj, ↓reduceIte, g2'']
      refine ⟨x', J2', rfl, rfl, ⟨fun c' h3' h4' => by rw [g3'.1 c' h3' (by omega)]; exact hM'.1 c' h3' h4', fun j' h3' h4' => by rw [g3'.2.1 j' h3' h4']; exact hM'.2.1 j' h3' h4', g3'.2.2⟩, g4'⟩
    · right
      rw [g1']
      have g2'' : F_X3_readItems 37 4 0 45 0 (q_u2 (q_u2 J1' 37 2 (Int32.ofNat (t_sk β n' e' + 1))) 44 6 1, X') = some (1, (J2', X')) := g2'
      simp (disch := omega) only [↓ce_44 hB', rf_44 hB', ↓nn_46, ↓nn_47, ↓nn_48, ↓nn_49, p_bs, p_rq0, p_rq1, p_rz0, p_rz1, p_us, p_un, p_uj, ↓reduceIte, g2'']
      refine ⟨x', _, J2', rfl, rfl, ⟨?_, ?_, g3'.2.2.1, ?_, ?_, ?_, ?_, ?_, ?_, d10', d11', ?_⟩, g4'⟩
      · intro c' h3' h4'; rw [g3'.1 c' h3' (by omega)]; exact hM'.1 c' h3' h4'
      · intro j' h3' h4'; rw [g3'.2.1 j' h3' h4']; exact hM'.2.1 j' h3' h4'
      · intro k' hk'
        have := g3'.2.2.2.1 k' hk'
        rw [Nat.zero_add] at this
        exact this
      · rw [g3'.1 46 (by decide) (by decide)]; exact hM'.2.2.2.2.1
      · rw [g3'.1 47 (by decide) (by decide)]; exact hM'.2.2.2.2.2.1
      · rw [g3'.1 44 (by decide) (by decide)]; exact hM'.2.2.2.2.2.2.1
      · rw [g3'.1 44 (by decide) (by decide)]; exact hM'.2.2.2.2.2.2.2.1
      · rw [g3'.1 44 (by decide) (by decide)]; exact hM'.2.2.2.2.2.2.2.2.1
      · rw [g3'.1 44 (by decide) (by decide)]; exact hM'.2.2.2.2.2.2.2.2.2.2.2
  · have hs'' : (if t_is β n' (t_sk β n' e') 115 = true then (if ru' = false then (0 : Nat) else 1) else 1) = 1 := by
      by_cases h1' : t_is β n' (t_sk β n' e') 115 = true
      · rw [if_pos h1', if_neg (fun h2' => hs' ⟨h1', h2'⟩)]
      · rw [if_neg h1']
    have hif' : ∀ {α : Type} (x' y' : α), (if t_is β n' (t_sk β n' e') 115 = true then (if ru' = false then x' else y') else y') = y' := by
      intro α x' y'
      by_cases h1' : t_is β n' (t_sk β n' e') 115 = true
      · rw [if_pos h1', if_neg (fun h2' => hs' ⟨h1', h2'⟩)]
      · rw [if_neg h1']
    simp only [hs', ↓reduceIte]
    rw [hif']
    unfold J_X3_readClause_48
    rw [show (100 : Int32) = Int32.ofNat 100 from rfl]
    simp (disch := omega) only [↓ce_37 hB', rf_37 hB', ↓ce_44 hB', rf_44 hB', ↓nn_39, ↓nn_46, ↓nn_47, ↓nn_48, ↓nn_49, p_bs, p_rq0, p_rq1, p_rz0, p_rz1, p_us, p_un, p_uj, ↓reduceIte, t_sgE2 hT'.2.2.2.2.2 _ _ (show (100 : Nat) < 256 by decide), t_isE, f7', p_cm, b2'.2.2, p_ar]
    by_cases hd' : t_is β n' (t_sk β n' e') 100 = true ∧ nd' < 5
    · have hlt' : t_sk β n' e' < n' := by
        have := hd'.1
        unfold t_is at this
        simp only [Bool.and_eq_true, decide_eq_true_eq] at this
        exact this.1
      simp only [hd'.1, hd'.2, and_self, ↓reduceIte]
      have hM' : t_CH I' (t_sk β n' e' + 1) (rr', rd', rg', nd', ng', ru') (q_u2 J1' 37 2 (Int32.ofNat (t_sk β n' e' + 1))) := c2'
      have hT2' : t_TP β n' (t_sk β n' e' + 1) (q_u2 (q_u2 J1' 37 2 (Int32.ofNat (t_sk β n' e' + 1))) 44 4 (Int32.ofNat (nd' + 1))) := by
        obtain ⟨a1', a2', a3', a4', a5', a6'⟩ := t_TPh hT' hM' (show t_sk β n' e' + 1 ≤ n' by omega)
        exact ⟨by rw [p_uc _ _ _ _ _ (by decide)]; exact a1', by rw [p_uc _ _ _ _ _ (by decide)]; exact a2', by rw [p_uc _ _ _ _ _ (by decide)]; exact a3', a4', a5', a6'⟩
      have hS2' := hSk' (q_u2 (q_u2 J1' 37 2 (Int32.ofNat (t_sk β n' e' + 1))) 44 4 (Int32.ofNat (nd' + 1))) (fun c' hc' => by rw [p_uc _ _ _ _ _ (by omega), p_uc _ _ _ _ _ (by omega)])
      have hR' := s_readItems (β := β) (n' := n') (e' := t_sk β n' e' + 1) (K' := t_K1) (a' := 6) (bc' := 1) (rc' := 46) (from' := 3 * nd') (len' := 15) hB' hT2' (t_bk1 hB' hS2') (t_sh6 hB' hS2') (sh_46 hB') (by show 3 * nd' + 3 ≤ 15; omega) (by decide) (by decide) (by decide) (by decide)
      simp (disch := omega) only [↓ce_37 hB', rf_37 hB', ↓ce_44 hB', rf_44 hB', ↓nn_39, ↓nn_46, ↓nn_47, ↓nn_48, ↓nn_49, p_bs, p_rq0, p_rq1, p_rz0, p_rz1, p_us, p_un, p_uj, ↓reduceIte, f7', p_ar, p_sub1, Nat.add_sub_cancel, Nat.mul_comm nd' 3]
      rcases hR' with ⟨x', J2', g1', g2', g3', g4'⟩ | ⟨x', row', J2', g1', g2', g3', g4'⟩
      · left
        rw [g1']
        simp (disch := omega) only [↓ce_44 hB', rf_44 hB', ↓nn_46, ↓nn_47, ↓nn_48, ↓nn_49, p_bs, p_rq0, p_rq1, p_rz0, p_rz1, p_us, p_un, p_uj, ↓reduceIte, g2']
        refine ⟨x', J2', rfl, rfl, ⟨fun c' h3' h4' => by rw [g3'.1 c' h3' (by omega), p_uc _ _ _ _ _ (by omega)]; exact hM'.1 c' h3' h4', fun j' h3' h4' => by rw [g3'.2.1 j' h3' h4', p_uc _ _ _ _ _ (by decide)]; exact hM'.2.1 j' h3' h4', g3'.2.2⟩, g4'⟩
      · right
        rw [g1']
        simp (disch := omega) only [↓ce_44 hB', rf_44 hB', ↓nn_46, ↓nn_47, ↓nn_48, ↓nn_49, p_bs, p_rq0, p_rq1, p_rz0, p_rz1, p_us, p_un, p_uj, ↓reduceIte, g2']
        refine ⟨x', _, J2', rfl, rfl, ⟨?_, ?_, g3'.2.2.1, ?_, ?_, ?_, ?_, ?_, ?_, by show nd' + 1 ≤ 5; omega, d11', ?_⟩, g4'⟩
        · intro c' h3' h4'; rw [g3'.1 c' h3' (by omega), p_uc _ _ _ _ _ (by omega)]; exact hM'.1 c' h3' h4'
        · intro j' h3' h4'; rw [g3'.2.1 j' h3' h4', p_uc _ _ _ _ _ (by decide)]; exact hM'.2.1 j' h3' h4'
        · rw [g3'.1 45 (by decide) (by decide), p_uc _ _ _ _ _ (by decide)]; exact hM'.2.2.2.1
        · intro j' hj'
          show J2' 46 j' = Int32.ofNat (t_put rd' (3 * nd') 3 row' j')
          have hj' : j' < 3 * (nd' + 1) := hj'
          by_cases hjj' : j' < 3 * nd'
          · rw [t_putN _ _ _ _ _ hjj', g3'.2.2.2.2 j' (.inl hjj'), p_uc _ _ _ _ _ (by decide)]
            exact hM'.2.2.2.2.1 j' hjj'
          · have := g3'.2.2.2.1 (j' - 3 * nd') (by show j' - 3 * nd' < 3; omega)
            rw [show 3 * nd' + (j' - 3 * nd') = j' by omega] at this
            rw [this]
            have h7' := t_putS rd' row' (3 * nd') 3 (j' - 3 * nd') (by omega)
            rw [show 3 * nd' + (j' - 3 * nd') = j' by omega] at h7'
            rw [h7']
        · rw [g3'.1 47 (by decide) (by decide), p_uc _ _ _ _ _ (by decide)]; exact hM'.2.2.2.2.2.1
        · rw [g3'.1 44 (by decide) (by decide), p_us]
        · rw [g3'.1 44 (by decide) (by decide), p_uj _ _ _ _ _ (by decide)]; exact hM'.2.2.2.2.2.2.2.1
        · rw [g3'.1 44 (by decide) (by decide), p_uj _ _ _ _ _ (by decide)]; exact hM'.2.2.2.2.2.2.2.2.1
        · intro j' hj'; rw [g3'.1 44 (by decide) (by decide), p_uj _ _ _ _ _ (by omega)]; exact hM'.2.2.2.2.2.2.2.2.2.2.2 j' hj'
    · have hif2' : ∀ {α : Type} (x' y' : α), (if t_is β n' (t_sk β n' e') 100 = true then (if nd' < 5 then x' else y') else y') = y' := by
        intro α x' y'
        by_cases h1' : t_is β n' (t_sk β n' e') 100 = true
        · rw [if_pos h1', if_neg (fun h2' => hd' ⟨h1', h2'⟩)]
        · rw [if_neg h1']
      simp only [hd', ↓reduceIte]
      rw [hif2']
      unfold J_X3_readClause_104
      rw [show (103 : Int32) = Int32.ofNat 103 from rfl]
      simp (disch := omega) only [↓ce_37 hB', rf_37 hB', ↓ce_44 hB', rf_44 hB', ↓nn_39, ↓nn_46, ↓nn_47, ↓nn_48, ↓nn_49, p_bs, p_rq0, p_rq1, p_rz0, p_rz1, p_us, p_un, p_uj, ↓reduceIte, t_sgE2 hT'.2.2.2.2.2 _ _ (show (103 : Nat) < 256 by decide), t_isE, f8', p_cm, b2'.2.2, p_ar]
      by_cases hg' : t_is β n' (t_sk β n' e') 103 = true ∧ ng' < 6
      · have hlt' : t_sk β n' e' < n' := by
          have := hg'.1
          unfold t_is at this
          simp only [Bool.and_eq_true, decide_eq_true_eq] at this
          exact this.1
        simp only [hg'.1, hg'.2, and_self, ↓reduceIte]
        have hM' : t_CH I' (t_sk β n' e' + 1) (rr', rd', rg', nd', ng', ru') (q_u2 J1' 37 2 (Int32.ofNat (t_sk β n' e' + 1))) := c2'
        have hT2' : t_TP β n' (t_sk β n' e' + 1) (q_u2 (q_u2 J1' 37 2 (Int32.ofNat (t_sk β n' e' + 1))) 44 5 (Int32.ofNat (ng' + 1))) := by
          obtain ⟨a1', a2', a3', a4', a5', a6'⟩ := t_TPh hT' hM' (show t_sk β n' e' + 1 ≤ n' by omega)
          exact ⟨by rw [p_uc _ _ _ _ _ (by decide)]; exact a1', by rw [p_uc _ _ _ _ _ (by decide)]; exact a2', by rw [p_uc _ _ _ _ _ (by decide)]; exact a3', a4', a5', a6'⟩
        have hS2' := hSk' (q_u2 (q_u2 J1' 37 2 (Int32.ofNat (t_sk β n' e' + 1))) 44 5 (Int32.ofNat (ng' + 1))) (fun c' hc' => by rw [p_uc _ _ _ _ _ (by omega), p_uc _ _ _ _ _ (by omega)])
        have hR' := s_readItems (β := β) (n' := n') (e' := t_sk β n' e' + 1) (K' := t_K2) (a' := 8) (bc' := 2) (rc' := 47) (from' := 4 * ng') (len' := 24) hB' hT2' (t_bk2 hB' hS2') (t_sh8 hB' hS2') (sh_47 hB') (by show 4 * ng' + 4 ≤ 24; omega) (by decide) (by decide) (by decide) (by decide)
        simp (disch := omega) only [↓ce_37 hB', rf_37 hB', ↓ce_44 hB', rf_44 hB', ↓nn_39, ↓nn_46, ↓nn_47, ↓nn_48, ↓nn_49, p_bs, p_rq0, p_rq1, p_rz0, p_rz1, p_us, p_un, p_uj, ↓reduceIte, f8', p_ar, p_sub1, Nat.add_sub_cancel, Nat.mul_comm ng' 4]
        rcases hR' with ⟨x', J2', g1', g2', g3', g4'⟩ | ⟨x', row', J2', g1', g2', g3', g4'⟩
        · left
          rw [g1']
          simp (disch := omega) only [↓ce_44 hB', rf_44 hB', ↓nn_46, ↓nn_47, ↓nn_48, ↓nn_49, p_bs, p_rq0, p_rq1, p_rz0, p_rz1, p_us, p_un, p_uj, ↓reduceIte, g2']
          refine ⟨x', J2', rfl, rfl, ⟨fun c' h3' h4' => by rw [g3'.1 c' h3' (by omega), p_uc _ _ _ _ _ (by omega)]; exact hM'.1 c' h3' h4', fun j' h3' h4' => by rw [g3'.2.1 j' h3' h4', p_uc _ _ _ _ _ (by decide)]; exact hM'.2.1 j' h3' h4', g3'.2.2⟩, g4'⟩
        · right
          rw [g1']
          simp (disch := omega) only [↓ce_44 hB', rf_44 hB', ↓nn_46, ↓nn_47, ↓nn_48, ↓nn_49, p_bs, p_rq0, p_rq1, p_rz0, p_rz1, p_us, p_un, p_uj, ↓reduceIte, g2']
          refine ⟨x', _, J2', rfl, rfl, ⟨?_, ?_, g3'.2.2.1, ?_, ?_, ?_, ?_, ?_, ?_, d10', by show ng' + 1 ≤ 6; omega, ?_⟩, g4'⟩
          · intro c' h3' h4'; rw [g3'.1 c' h3' (by omega), p_uc _ _ _ _ _ (by omega)]; exact hM'.1 c' h3' h4'
          · intro j' h3' h4'; rw [g3'.2.1 j' h3' h4', p_uc _ _ _ _ _ (by decide)]; exact hM'.2.1 j' h3' h4'
          · rw [g3'.1 45 (by decide) (by decide), p_uc _ _ _ _ _ (by decide)]; exact hM'.2.2.2.1
          · rw [g3'.1 46 (by decide) (by decide), p_uc _ _ _ _ _ (by decide)]; exact hM'.2.2.2.2.1
          · intro j' hj'
            show J2' 47 j' = Int32.ofNat (t_put rg' (4 * ng') 4 row' j')
            have hj' : j' < 4 * (ng' + 1) := hj'
            by_cases hjj' : j' < 4 * ng'
            · rw [t_putN _ _ _ _ _ hjj', g3'.2.2.2.2 j' (.inl hjj'), p_uc _ _ _ _ _ (by decide)]
              exact hM'.2.2.2.2.2.1 j' hjj'
            · have := g3'.2.2.2.1 (j' - 4 * ng') (by show j' - 4 * ng' < 4; omega)
              rw [show 4 * ng' + (j' - 4 * ng') = j' by omega] at this
              rw [this]
              have h7' := t_putS rg' row' (4 * ng') 4 (j' - 4 * ng') (by omega)
              rw [show 4 * ng' + (j' - 4 * ng') = j' by omega] at h7'
              rw [h7']
          · rw [g3'.1 44 (by decide) (by decide), p_uj _ _ _ _ _ (by decide)]; exact hM'.2.2.2.2.2.2.1
          · rw [g3'.1 44 (by decide) (by decide), p_us]
          · rw [g3'.1 44 (by decide) (by decide), p_uj _ _ _ _ _ (by decide)]; exact hM'.2.2.2.2.2.2.2.2.1
          · intro j' hj'; rw [g3'.1 44 (by decide) (by decide), p_uj _ _ _ _ _ (by omega)]; exact hM'.2.2.2.2.2.2.2.2.2.2.2 j' hj'
      · left
        have hif3' : ∀ {α : Type} (x' y' : α), (if t_is β n' (t_sk β n' e') 103 = true then (if ng' < 6 then x' else y') else y') = y' := by
          intro α x' y'
          by_cases h1' : t_is β n' (t_sk β n' e') 103 = true
          · rw [if_pos h1', if_neg (fun h2' => hg' ⟨h1', h2'⟩)]
          · rw [if_neg h1']
        simp only [hg', ↓reduceIte]
        rw [hif3']
        exact ⟨_, J1', rfl, rfl, t_CHy c1', hU'⟩
theorem s_houseFrom (hB' : p_B X') (hS' : p_S I') (hT' : t_TP β n' 0 I') :
    (∃ x' J'', t_hou β n' 13 0 t_h0 = .inl x' ∧ F_X3_readFrom 44 37 (I', X') = some (0, (J'', X')) ∧ t_CY I' x' J'' ∧ x' ≤ n') ∨
    (∃ h'' x' J'', t_hou β n' 13 0 t_h0 = .inr h'' ∧ F_X3_readFrom 44 37 (I', X') = some (1, (J'', X')) ∧ t_CH I' x' h'' J'') := by
  unfold F_X3_readFrom
  simp (disch := omega) only [↓ce_44 hB', rf_44 hB', ↓nn_46, ↓nn_47, ↓nn_48, ↓nn_49, p_bs, p_rq0, p_rq1, p_rz0, p_rz1, p_us, p_un, p_uj, ↓reduceIte]
  generalize hI3' : q_u2 (q_u2 (q_u2 I' 44 4 0) 44 5 0) 44 6 0 = I3'
  have g3' : ∀ c', c' ≠ 44 → I3' c' = I' c' := fun c' hc' => by rw [← hI3', p_uc _ _ _ _ _ hc', p_uc _ _ _ _ _ hc', p_uc _ _ _ _ _ hc']
  have hS3' : p_S I3' := fun k' hk' => by rw [g3' k' (by omega)]; exact hS' k' hk'
  obtain ⟨J0', u1', u2', u3', u4'⟩ := s_setUsual (K' := t_K0) (bc' := 0) (rc' := 45) (from' := 0) (len' := 3) (t_bk0 hB' hS3') (sh_45 hB') (by decide) (by decide) (by decide) (by decide)
  have u1'' : F_X3_setUsual 0 45 0 3 (I3', X') = some ((), (J0', X')) := u1'
  simp only [u1'', p_bs]
  have hC0' : t_CH I' 0 t_h0 J0' := by
    refine ⟨fun c' h3' h4' => by rw [u2' c' (by omega), g3' c' (by omega)], fun j' h3' h4' => by rw [u2' 37 (by decide), g3' 37 (by decide)], by rw [u2' 37 (by decide), g3' 37 (by decide)]; exact hT'.2.1, ?_, fun j' hj' => absurd hj' (Nat.not_lt_zero j'), fun j' hj' => absurd hj' (Nat.not_lt_zero j'), ?_, ?_, ?_, by decide, by decide, ?_⟩
    · intro k' hk'
      have := u3' k' hk'
      rw [Nat.zero_add] at this
      exact this
    · rw [u2' 44 (by decide), ← hI3']; simp (disch := omega) only [p_us, p_uj]; rfl
    · rw [u2' 44 (by decide), ← hI3']; simp (disch := omega) only [p_us, p_uj]; rfl
    · rw [u2' 44 (by decide), ← hI3']; simp (disch := omega) only [p_us, p_uj]; rfl
    · intro j' hj'; rw [u2' 44 (by decide), ← hI3']; simp (disch := omega) only [p_us, p_uj]
  obtain ⟨z', h1', h2'⟩ := p_lp (fun z' => B_X3_readFrom_29 44 37 z'.1 z'.2)
    (fun i' z' => ∃ J' e1' h', z' = (Int32.ofNat i', (J', X')) ∧ t_CH I' e1' h' J' ∧ e1' ≤ n' ∧ t_hou β n' (13 - i') e1' h' = t_hou β n' 13 0 t_h0)
    (fun z' => (∃ x' J', t_hou β n' 13 0 t_h0 = .inl x' ∧ (z' = .inl (J', X') ∨ z' = .inr (.inr (.inl (J', X'))) ∨ z' = .inr (.inr (.inr (J', X')))) ∧ t_CY I' x' J' ∧ x' ≤ n') ∨ (∃ x' h' J', t_hou β n' 13 0 t_h0 = (if 0 < h'.2.2.2.1 ∧ 0 < h'.2.2.2.2.1 then .inr h' else .inl x') ∧ z' = .inr (.inl (J', X')) ∧ t_CH I' x' h' J' ∧ x' ≤ n')) 13 (by
      rintro i' z' hi' ⟨J', e1', h', rfl, j1', j2', j3'⟩
      unfold B_X3_readFrom_29
      by_cases hlt' : i' < 13
      · have hni' : ¬ 12 < i' := by omega
        rw [show 13 - i' = (13 - (i' + 1)) + 1 by omega, t_hou] at j3'
        simp (disch := omega) only [↓ce_44 hB', rf_44 hB', ↓nn_46, ↓nn_47, ↓nn_48, ↓nn_49, p_bs, p_rq0, p_rq1, p_rz0, p_rz1, p_us, p_un, p_uj, ↓reduceIte, p_cm, hni']
        rcases s_cclause hB' hS' hT' j1' j2' with ⟨x', J1', d1', d2', d3', d4'⟩ | ⟨x', h'', J1', d1', d2', d3', d4'⟩
        · right
          rw [d1'] at j3'
          simp only [d2', p_bs, ↓reduceIte]
          exact ⟨_, rfl, .inl ⟨x', J1', j3'.symm, .inl rfl, d3', d4'⟩⟩
        · rw [d1'] at j3'
          simp only at j3'
          have hT1' := t_TPh hT' d3' d4'
          obtain ⟨J2', b1', b2', -⟩ := s_peek hB' hT1'
          have hU' := t_skU β n' x' d4'
          have c1' := t_CHp d3' b2'
          have hT2' := t_TPh hT' c1' hU'
          simp only [d2', p_bs, show ((1 : Int32) = 0) = False from by decide, ↓reduceIte, p_ob (sh_37 hB'), b1', t_sgN2 hT'.2.2.2.2.2]
          by_cases hx' : t_sk β n' x' < n'
          · rw [if_pos hx'] at j3'
            obtain ⟨J3', b3', b4'⟩ := s_take hB' hT2' 59 (by decide)
            rw [t_skk] at b3' b4'
            have b3'' : F_X9_take 37 59 (J2', X') = some (t_b (t_is β n' (t_sk β n' x') 59), (J3', X')) := b3'
            simp only [hx', not_true_eq_false, ↓reduceIte, b3'', p_bs, t_b0]
            by_cases h59' : β (t_sk β n' x') = 59
            · left
              rw [if_pos h59'] at j3'
              have hy' : t_is β n' (t_sk β n' x') 59 = true := by simp [t_is, hx', h59']
              rw [hy', if_pos rfl] at b4'
              simp only [hy', Bool.true_eq_false, ↓reduceIte, p_ar]
              exact ⟨_, rfl, hlt', J3', _, h'', rfl, t_CHp c1' b4', by omega, j3'⟩
            · right
              rw [if_neg h59'] at j3'
              have hy' : t_is β n' (t_sk β n' x') 59 = false := by simp [t_is, h59']
              rw [hy', if_neg (by decide)] at b4'
              simp only [hy', ↓reduceIte]
              exact ⟨_, rfl, .inl ⟨_, J3', j3'.symm, .inr (.inl rfl), t_CHy (t_CHp c1' b4'), hU'⟩⟩
          · right
            rw [if_neg hx'] at j3'
            simp only [hx', not_false_eq_true, ↓reduceIte]
            exact ⟨_, rfl, .inr ⟨_, h'', J2', j3'.symm, rfl, c1', hU'⟩⟩
      · right
        have hi'' : i' = 13 := by omega
        subst hi''
        rw [Nat.sub_self, t_hou] at j3'
        simp (disch := omega) only [p_bs, p_rq0, p_rq1, p_rz0, p_rz1, p_us, p_un, p_uj, ↓reduceIte, p_cm, show (12 : Nat) < 13 from by decide]
        exact ⟨_, rfl, .inl ⟨e1', J', j3'.symm, .inr (.inr rfl), t_CHy j1', j2'⟩⟩) 13 0 q_fu (0, (J0', X')) (by omega) (by unfold q_fu; omega) ⟨J0', 0, t_h0, rfl, hC0', by omega, rfl⟩
  rw [h1']
  simp only [p_bs]
  rcases h2' with ⟨x', J', c1', c2', c3', c4'⟩ | ⟨x', h', J', c1', c2', c3', c4'⟩
  · left
    refine ⟨x', J', c1', ?_, c3', c4'⟩
    rcases c2' with rfl | rfl | rfl <;> rfl
  · subst c2'
    have f7' := c3'.2.2.2.2.2.2.1
    have f8' := c3'.2.2.2.2.2.2.2.1
    have f10' := c3'.2.2.2.2.2.2.2.2.2.1
    have f11' := c3'.2.2.2.2.2.2.2.2.2.2.1
    rw [c1']
    simp (disch := omega) only [↓ce_44 hB', rf_44 hB', ↓nn_46, ↓nn_47, ↓nn_48, ↓nn_49, p_bs, p_rq0, p_rq1, p_rz0, p_rz1, p_us, p_un, p_uj, ↓reduceIte, f7', f8', p_cm]
    by_cases ha' : 0 < h'.2.2.2.1
    · by_cases hb' : 0 < h'.2.2.2.2.1
      · right
        simp only [ha', hb', and_self, ↓reduceIte]
        exact ⟨h', x', J', rfl, rfl, c3'⟩
      · left
        simp only [ha', hb', and_false, ↓reduceIte]
        exact ⟨x', J', rfl, rfl, t_CHy c3', c4'⟩
    · left
      simp only [ha', false_and, ↓reduceIte]
      exact ⟨x', J', rfl, rfl, t_CHy c3', c4'⟩
end PH'
