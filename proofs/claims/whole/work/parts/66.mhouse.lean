/-! the reference's reader of a HOUSE, whole -/
def t_MH (I' : p_I) (e' : Nat) (h' : t_hs) (J' : p_I) : Prop := (∀ c', c' ≠ 87 → c' ≠ 93 → c' ≠ 95 → c' ≠ 97 → J' c' = I' c') ∧ (∀ j', j' ≠ 10 → j' ≠ 28 → j' ≠ 29 → j' ≠ 31 → J' 87 j' = I' 87 j') ∧ J' 87 10 = Int32.ofNat e' ∧ (∀ k', k' < 3 → J' 93 k' = Int32.ofNat (h'.1 k')) ∧ (∀ j', j' < 3 * h'.2.2.2.1 → J' 95 j' = Int32.ofNat (h'.2.1 j')) ∧ (∀ j', j' < 4 * h'.2.2.2.2.1 → J' 97 j' = Int32.ofNat (h'.2.2.1 j')) ∧
  J' 87 28 = Int32.ofNat h'.2.2.2.1 ∧ J' 87 29 = Int32.ofNat h'.2.2.2.2.1 ∧ J' 87 31 = t_b h'.2.2.2.2.2 ∧ h'.2.2.2.1 ≤ 5 ∧ h'.2.2.2.2.1 ≤ 6
def t_MY (I' : p_I) (e' : Nat) (J' : p_I) : Prop := (∀ c', c' ≠ 87 → c' ≠ 93 → c' ≠ 95 → c' ≠ 97 → J' c' = I' c') ∧ (∀ j', j' ≠ 10 → j' ≠ 11 → j' ≠ 28 → j' ≠ 29 → j' ≠ 31 → J' 87 j' = I' 87 j') ∧ J' 87 11 = Int32.ofNat e'
theorem t_MHq {I' J' K' : p_I} {e' e'' : Nat} {h' : t_hs} (hh' : t_MH I' e' h' J') (h2' : t_QE J' e'' K') : t_MH I' e'' h' K' := by
  obtain ⟨a1', a2', a3', a4', a5', a6', a7', a8', a9', a10'⟩ := hh'
  exact ⟨fun c' h3' h4' h5' h6' => by rw [h2'.1 c' h3', a1' c' h3' h4' h5' h6'], fun j' h3' h4' h5' h6' => by rw [h2'.2.1 j' h3', a2' j' h3' h4' h5' h6'], h2'.2.2, by rw [h2'.1 93 (by decide)]; exact a4', by rw [h2'.1 95 (by decide)]; exact a5', by rw [h2'.1 97 (by decide)]; exact a6', by rw [h2'.2.1 28 (by decide)]; exact a7', by rw [h2'.2.1 29 (by decide)]; exact a8', by rw [h2'.2.1 31 (by decide)]; exact a9', a10'⟩
theorem t_MHx {I' J' K' : p_I} {e' e'' : Nat} {h' : t_hs} (hh' : t_MH I' e' h' J') (h2' : t_QX J' e'' K') : t_MY I' e'' K' := ⟨fun c' h3' h4' h5' h6' => by rw [h2'.1 c' h3', hh'.1 c' h3' h4' h5' h6'], fun j' h3' h4' h5' h6' h7' => by rw [h2'.2.1 j' h3' h4', hh'.2.1 j' h3' h5' h6' h7'], h2'.2.2⟩
theorem t_RTh {β : Nat → Nat} {n' tc' bg' e' : Nat} {I' J' : p_I} {X' : p_X} {h' : t_hs} (hR' : t_RT β n' tc' bg' I' X') (hh' : t_MH I' e' h' J') : t_RT β n' tc' bg' J' X' := by
  obtain ⟨a1', a2', a3', a4', a5', a6', a7'⟩ := hR'
  exact ⟨a1', a2', by rw [hh'.2.1 8 (by decide) (by decide) (by decide) (by decide)]; exact a3', by rw [hh'.2.1 9 (by decide) (by decide) (by decide) (by decide)]; exact a4', a5', by rw [hh'.1 tc' (by omega) (by omega) (by omega) (by omega)]; exact a6', a7'⟩
section PH'
variable {X' : p_X} {I' J' : p_I} {β : Nat → Nat} {n' e' tc' bg' : Nat} {h' : t_hs}
theorem s_mclause (hB' : p_B X') (hS' : p_S I') (hR' : t_RT β n' tc' bg' I' X') (h11' : I' 87 11 = -1) (hC' : t_MH I' e' h' J') (he' : e' ≤ n') :
    ∃ J'', F_X12_readClause 87 (J', X') = some ((), (J'', X')) ∧ ((∃ x', t_cla β n' e' h' = .inl x' ∧ t_MY I' x' J'' ∧ x' ≤ n') ∨ (∃ x' h'', t_cla β n' e' h' = .inr (x', h'') ∧ t_MH I' x' h'' J'' ∧ x' ≤ n')) := by
  have hR1' := t_RTh hR' hC'
  obtain ⟨J1', b1', b2'⟩ := s_look hB' hR1' hC'.2.2.1 he'
  have hU' := t_skU β n' e' he'
  have c1' := t_MHq hC' b2'
  have hβ := hR'.2.2.2.2.2.2
  obtain ⟨rr', rd', rg', nd', ng', ru'⟩ := h'
  obtain ⟨f1', f2', f3', f4', f5', f6', f7', f8', f9', f10', f11'⟩ := id c1'
  try simp only at f4' f5' f6' f7' f8' f9' f10' f11'
  have g11' : J1' 87 11 = -1 := by rw [f2' 11 (by decide) (by decide) (by decide) (by decide)]; exact h11'
  have hF' := s_fails hB' b2'.2.2 g11'
  have q1' := t_QEu (e'' := t_sk β n' e' + 1) b2'
  have c2' := t_MHq hC' q1'
  have hR2' := t_RTh hR' c2'
  have htc' : tc' = 88 ∨ tc' = 89 := by
    rcases hR'.2.1 with h' | h'
    · exact .inl h'.1
    · exact .inr h'.1
  have hSk' : ∀ K' : p_I, (∀ c', c' < 34 → K' c' = J1' c') → p_S K' := fun K' hK' k' hk' => by rw [hK' k' hk', c1'.1 k' (by omega) (by omega) (by omega) (by omega)]; exact hS' k' hk'
  have hfail : J_X12_readClause_51 87 (t_sg β n' (t_sk β n' e')) (J1', X') = some ((), (q_u2 J1' 87 11 (Int32.ofNat (t_sk β n' e')), X')) := by
    unfold J_X12_readClause_51 J_X12_readClause_52
    simp (disch := omega) only [↓ce_87 hB', rf_87 hB', ↓nn_31, ↓nn_33, ↓nn_89, ↓nn_90, ↓nn_91, ↓nn_92, ↓nn_93, ↓nn_94, ↓nn_95, ↓nn_96, ↓nn_97, ↓nn_98, ↓nn_99, ↓nn_100, ↓nn_101, ↓nn_102, ↓nn_103, ↓nn_104, ↓nn_105, ↓nn_106, ↓nn_107, ↓nn_108, p_bs, p_rq0, p_rq1, p_rz0, p_rz1, p_us, p_un, p_uj, ↓reduceIte, hF']
  have hfm' : t_MY I' (t_sk β n' e') (q_u2 J1' 87 11 (Int32.ofNat (t_sk β n' e'))) := t_MHx c1' (t_QEx (t_QEs b2'.2.2))
  unfold F_X12_readClause t_cla
  try simp only
  rw [show (115 : Int32) = Int32.ofNat 115 from rfl]
  simp (disch := omega) only [↓ce_87 hB', rf_87 hB', ↓nn_31, ↓nn_33, ↓nn_89, ↓nn_90, ↓nn_91, ↓nn_92, ↓nn_93, ↓nn_94, ↓nn_95, ↓nn_96, ↓nn_97, ↓nn_98, ↓nn_99, ↓nn_100, ↓nn_101, ↓nn_102, ↓nn_103, ↓nn_104, ↓nn_105, ↓nn_106, ↓nn_107, ↓nn_108, p_bs, p_rq0, p_rq1, p_rz0, p_rz1, p_us, p_un, p_uj, ↓reduceIte, b1', t_sgE2 hβ _ _ (show (115 : Nat) < 256 by decide), t_isE, f9', t_b0]
  by_cases hs' : t_is β n' (t_sk β n' e') 115 = true ∧ ru' = false
  · have hlt' : t_sk β n' e' < n' ∧ β (t_sk β n' e') = 115 := by
      have := hs'.1
      unfold t_is at this
      simpa using this
    simp only [hs'.1, hs'.2, and_self, ↓reduceIte]
    unfold J_X12_readClause_47 J_X12_readClause_52
    rw [t_sgP hlt'.1, hlt'.2]
    simp (disch := omega) only [↓ce_87 hB', rf_87 hB', ↓nn_31, ↓nn_33, ↓nn_89, ↓nn_90, ↓nn_91, ↓nn_92, ↓nn_93, ↓nn_94, ↓nn_95, ↓nn_96, ↓nn_97, ↓nn_98, ↓nn_99, ↓nn_100, ↓nn_101, ↓nn_102, ↓nn_103, ↓nn_104, ↓nn_105, ↓nn_106, ↓nn_107, ↓nn_108, p_bs, p_rq0, p_rq1, p_rz0, p_rz1, p_us, p_un, p_uj, ↓reduceIte, b2'.2.2, p_ar, show ((1 : Int32) = 0) = False from by decide, show (Int32.ofNat 115 = 115) = True from by decide]
    have hR3' : t_RT β n' tc' bg' (q_u2 (q_u2 J1' 87 10 (Int32.ofNat (t_sk β n' e' + 1))) 87 31 1) X' := by
      obtain ⟨a1', a2', a3', a4', a5', a6', a7'⟩ := hR2'
      exact ⟨a1', a2', by rw [p_uj _ _ _ _ _ (by decide)]; exact a3', by rw [p_uj _ _ _ _ _ (by decide)]; exact a4', a5', by rw [p_uc _ _ _ _ _ (by omega)]; exact a6', a7'⟩
    have hS2' := hSk' (q_u2 (q_u2 J1' 87 10 (Int32.ofNat (t_sk β n' e' + 1))) 87 31 1) (fun c' hc' => by rw [p_uc _ _ _ _ _ (by omega), p_uc _ _ _ _ _ (by omega)])
    obtain ⟨J2', g2', g'⟩ := s_mreadItems (e' := t_sk β n' e' + 1) (K' := t_K0) (a' := 22) (rc' := 93) (from' := 0) (len' := 3) hB' hR3' (by rw [p_uj _ _ _ _ _ (by decide), p_us]) (by omega) (by rw [p_uj _ _ _ _ _ (by decide), p_uj _ _ _ _ _ (by decide)]; exact g11') t_mk0 (t_sh22 hB' hS2') (sh_93 hB') (by decide) (by decide) (by decide) (by decide)
    have g2'' : F_X12_readItems 87 (Int32.ofNat 115) 93 0 22 (q_u2 (q_u2 J1' 87 10 (Int32.ofNat (t_sk β n' e' + 1))) 87 31 1, X') = some ((), (J2', X')) := g2'
    simp (disch := omega) only [↓ce_87 hB', rf_87 hB', ↓nn_31, ↓nn_33, ↓nn_89, ↓nn_90, ↓nn_91, ↓nn_92, ↓nn_93, ↓nn_94, ↓nn_95, ↓nn_96, ↓nn_97, ↓nn_98, ↓nn_99, ↓nn_100, ↓nn_101, ↓nn_102, ↓nn_103, ↓nn_104, ↓nn_105, ↓nn_106, ↓nn_107, ↓nn_108, p_bs, p_rq0, p_rq1, p_rz0, p_rz1, p_us, p_un, p_uj, ↓reduceIte, g2'']
    refine ⟨J2', rfl, ?_⟩
    rcases g' with ⟨x', g1', g3', g4'⟩ | ⟨x', row', g1', g3', g4'⟩
    · left
      rw [g1']
      exact ⟨x', rfl, ⟨fun c' h3' h4' h5' h6' => by rw [g3'.1 c' h3' h4', p_uc _ _ _ _ _ h3', p_uc _ _ _ _ _ h3']; exact f1' c' h3' h4' h5' h6', fun j' h3' h4' h5' h6' h7' => by rw [g3'.2.1 j' h3' h4', p_uj _ _ _ _ _ h7', p_uj _ _ _ _ _ h3']; exact f2' j' h3' h5' h6' h7', g3'.2.2⟩, g4'⟩
    · right
      rw [g1']
      refine ⟨x', _, rfl, ⟨?_, ?_, g3'.2.2.1, ?_, ?_, ?_, ?_, ?_, ?_, f10', f11'⟩, g4'⟩
      · intro c' h3' h4' h5' h6'; rw [g3'.1 c' h3' h4', p_uc _ _ _ _ _ h3', p_uc _ _ _ _ _ h3']; exact f1' c' h3' h4' h5' h6'
      · intro j' h3' h4' h5' h6'; rw [g3'.2.1 j' h3', p_uj _ _ _ _ _ h6', p_uj _ _ _ _ _ h3']; exact f2' j' h3' h4' h5' h6'
      · intro k' hk'
        have := g3'.2.2.2.1 k' hk'
        rw [Nat.zero_add] at this
        exact this
      · rw [g3'.1 95 (by decide) (by decide), p_uc _ _ _ _ _ (by decide), p_uc _ _ _ _ _ (by decide)]; exact f5'
      · rw [g3'.1 97 (by decide) (by decide), p_uc _ _ _ _ _ (by decide), p_uc _ _ _ _ _ (by decide)]; exact f6'
      · rw [g3'.2.1 28 (by decide), p_uj _ _ _ _ _ (by decide), p_uj _ _ _ _ _ (by decide)]; exact f7'
      · rw [g3'.2.1 29 (by decide), p_uj _ _ _ _ _ (by decide), p_uj _ _ _ _ _ (by decide)]; exact f8'
      · rw [g3'.2.1 31 (by decide), p_us]; rfl
  · have hif' : ∀ {α : Type} (x' y' : α), (if t_is β n' (t_sk β n' e') 115 = true then (if ru' = false then x' else y') else y') = y' := by
      intro α x' y'
      by_cases h1' : t_is β n' (t_sk β n' e') 115 = true
      · rw [if_pos h1', if_neg (fun h2' => hs' ⟨h1', h2'⟩)]
      · rw [if_neg h1']
    simp only [hs', ↓reduceIte]
    rw [hif']
    unfold J_X12_readClause_18
    rw [show (100 : Int32) = Int32.ofNat 100 from rfl]
    simp (disch := omega) only [↓ce_87 hB', rf_87 hB', ↓nn_31, ↓nn_33, ↓nn_89, ↓nn_90, ↓nn_91, ↓nn_92, ↓nn_93, ↓nn_94, ↓nn_95, ↓nn_96, ↓nn_97, ↓nn_98, ↓nn_99, ↓nn_100, ↓nn_101, ↓nn_102, ↓nn_103, ↓nn_104, ↓nn_105, ↓nn_106, ↓nn_107, ↓nn_108, p_bs, p_rq0, p_rq1, p_rz0, p_rz1, p_us, p_un, p_uj, ↓reduceIte, t_sgE2 hβ _ _ (show (100 : Nat) < 256 by decide), t_isE, f7', p_cm]
    by_cases hd' : t_is β n' (t_sk β n' e') 100 = true ∧ nd' < 5
    · have hlt' : t_sk β n' e' < n' ∧ β (t_sk β n' e') = 100 := by
        have := hd'.1
        unfold t_is at this
        simpa using this
      simp only [hd'.1, hd'.2, and_self, ↓reduceIte]
      unfold J_X12_readClause_47 J_X12_readClause_52
      rw [t_sgP hlt'.1, hlt'.2]
      simp (disch := omega) only [↓ce_87 hB', rf_87 hB', ↓nn_31, ↓nn_33, ↓nn_89, ↓nn_90, ↓nn_91, ↓nn_92, ↓nn_93, ↓nn_94, ↓nn_95, ↓nn_96, ↓nn_97, ↓nn_98, ↓nn_99, ↓nn_100, ↓nn_101, ↓nn_102, ↓nn_103, ↓nn_104, ↓nn_105, ↓nn_106, ↓nn_107, ↓nn_108, p_bs, p_rq0, p_rq1, p_rz0, p_rz1, p_us, p_un, p_uj, ↓reduceIte, b2'.2.2, p_ar, show ((1 : Int32) = 0) = False from by decide, show (Int32.ofNat 100 = 115) = False from by decide, show (Int32.ofNat 100 = 100) = True from by decide, f7', p_sub1, Nat.add_sub_cancel]
      have hR3' : t_RT β n' tc' bg' (q_u2 (q_u2 J1' 87 10 (Int32.ofNat (t_sk β n' e' + 1))) 87 28 (Int32.ofNat (nd' + 1))) X' := by
        obtain ⟨a1', a2', a3', a4', a5', a6', a7'⟩ := hR2'
        exact ⟨a1', a2', by rw [p_uj _ _ _ _ _ (by decide)]; exact a3', by rw [p_uj _ _ _ _ _ (by decide)]; exact a4', a5', by rw [p_uc _ _ _ _ _ (by omega)]; exact a6', a7'⟩
      have hS2' := hSk' (q_u2 (q_u2 J1' 87 10 (Int32.ofNat (t_sk β n' e' + 1))) 87 28 (Int32.ofNat (nd' + 1))) (fun c' hc' => by rw [p_uc _ _ _ _ _ (by omega), p_uc _ _ _ _ _ (by omega)])
      obtain ⟨J2', g2', g'⟩ := s_mreadItems (e' := t_sk β n' e' + 1) (K' := t_K1) (a' := 24) (rc' := 95) (from' := 3 * nd') (len' := 15) hB' hR3' (by rw [p_uj _ _ _ _ _ (by decide), p_us]) (by omega) (by rw [p_uj _ _ _ _ _ (by decide), p_uj _ _ _ _ _ (by decide)]; exact g11') t_mk1 (t_sh24 hB' hS2') (sh_95 hB') (by show 3 * nd' + 3 ≤ 15; omega) (by decide) (by decide) (by decide)
      have g2'' : F_X12_readItems 87 (Int32.ofNat 100) 95 (Int32.ofNat (3 * nd')) 24 (q_u2 (q_u2 J1' 87 10 (Int32.ofNat (t_sk β n' e' + 1))) 87 28 (Int32.ofNat (nd' + 1)), X') = some ((), (J2', X')) := g2'
      simp (disch := omega) only [↓ce_87 hB', rf_87 hB', ↓nn_31, ↓nn_33, ↓nn_89, ↓nn_90, ↓nn_91, ↓nn_92, ↓nn_93, ↓nn_94, ↓nn_95, ↓nn_96, ↓nn_97, ↓nn_98, ↓nn_99, ↓nn_100, ↓nn_101, ↓nn_102, ↓nn_103, ↓nn_104, ↓nn_105, ↓nn_106, ↓nn_107, ↓nn_108, p_bs, p_rq0, p_rq1, p_rz0, p_rz1, p_us, p_un, p_uj, ↓reduceIte, g2'']
      refine ⟨J2', rfl, ?_⟩
      rcases g' with ⟨x', g1', g3', g4'⟩ | ⟨x', row', g1', g3', g4'⟩
      · left
        rw [g1']
        exact ⟨x', rfl, ⟨fun c' h3' h4' h5' h6' => by rw [g3'.1 c' h3' h5', p_uc _ _ _ _ _ h3', p_uc _ _ _ _ _ h3']; exact f1' c' h3' h4' h5' h6', fun j' h3' h4' h5' h6' h7' => by rw [g3'.2.1 j' h3' h4', p_uj _ _ _ _ _ h5', p_uj _ _ _ _ _ h3']; exact f2' j' h3' h5' h6' h7', g3'.2.2⟩, g4'⟩
      · right
        rw [g1']
        refine ⟨x', _, rfl, ⟨?_, ?_, g3'.2.2.1, ?_, ?_, ?_, ?_, ?_, ?_, by show nd' + 1 ≤ 5; omega, f11'⟩, g4'⟩
        · intro c' h3' h4' h5' h6'; rw [g3'.1 c' h3' h5', p_uc _ _ _ _ _ h3', p_uc _ _ _ _ _ h3']; exact f1' c' h3' h4' h5' h6'
        · intro j' h3' h4' h5' h6'; rw [g3'.2.1 j' h3', p_uj _ _ _ _ _ h4', p_uj _ _ _ _ _ h3']; exact f2' j' h3' h4' h5' h6'
        · rw [g3'.1 93 (by decide) (by decide), p_uc _ _ _ _ _ (by decide), p_uc _ _ _ _ _ (by decide)]; exact f4'
        · intro j' hj'
          show J2' 95 j' = Int32.ofNat (t_put rd' (3 * nd') 3 row' j')
          have hj' : j' < 3 * (nd' + 1) := hj'
          by_cases hjj' : j' < 3 * nd'
          · rw [t_putN _ _ _ _ _ hjj', g3'.2.2.2.2 j' (.inl hjj'), p_uc _ _ _ _ _ (by decide), p_uc _ _ _ _ _ (by decide)]
            exact f5' j' hjj'
          · have := g3'.2.2.2.1 (j' - 3 * nd') (by show j' - 3 * nd' < 3; omega)
            rw [show 3 * nd' + (j' - 3 * nd') = j' by omega] at this
            rw [this]
            have h7' := t_putS rd' row' (3 * nd') 3 (j' - 3 * nd') (by omega)
            rw [show 3 * nd' + (j' - 3 * nd') = j' by omega] at h7'
            rw [h7']
        · rw [g3'.1 97 (by decide) (by decide), p_uc _ _ _ _ _ (by decide), p_uc _ _ _ _ _ (by decide)]; exact f6'
        · rw [g3'.2.1 28 (by decide), p_us]
        · rw [g3'.2.1 29 (by decide), p_uj _ _ _ _ _ (by decide), p_uj _ _ _ _ _ (by decide)]; exact f8'
        · rw [g3'.2.1 31 (by decide), p_uj _ _ _ _ _ (by decide), p_uj _ _ _ _ _ (by decide)]; exact f9'
    · have hif2' : ∀ {α : Type} (x' y' : α), (if t_is β n' (t_sk β n' e') 100 = true then (if nd' < 5 then x' else y') else y') = y' := by
        intro α x' y'
        by_cases h1' : t_is β n' (t_sk β n' e') 100 = true
        · rw [if_pos h1', if_neg (fun h2' => hd' ⟨h1', h2'⟩)]
        · rw [if_neg h1']
      simp only [hd', ↓reduceIte]
      rw [hif2']
      unfold J_X12_readClause_32
      rw [show (103 : Int32) = Int32.ofNat 103 from rfl]
      simp (disch := omega) only [↓ce_87 hB', rf_87 hB', ↓nn_31, ↓nn_33, ↓nn_89, ↓nn_90, ↓nn_91, ↓nn_92, ↓nn_93, ↓nn_94, ↓nn_95, ↓nn_96, ↓nn_97, ↓nn_98, ↓nn_99, ↓nn_100, ↓nn_101, ↓nn_102, ↓nn_103, ↓nn_104, ↓nn_105, ↓nn_106, ↓nn_107, ↓nn_108, p_bs, p_rq0, p_rq1, p_rz0, p_rz1, p_us, p_un, p_uj, ↓reduceIte, t_sgE2 hβ _ _ (show (103 : Nat) < 256 by decide), t_isE, f8', p_cm]
      by_cases hg' : t_is β n' (t_sk β n' e') 103 = true ∧ ng' < 6
      · have hlt' : t_sk β n' e' < n' ∧ β (t_sk β n' e') = 103 := by
          have := hg'.1
          unfold t_is at this
          simpa using this
        simp only [hg'.1, hg'.2, and_self, ↓reduceIte]
        unfold J_X12_readClause_47 J_X12_readClause_52
        rw [t_sgP hlt'.1, hlt'.2]
        simp (disch := omega) only [↓ce_87 hB', rf_87 hB', ↓nn_31, ↓nn_33, ↓nn_89, ↓nn_90, ↓nn_91, ↓nn_92, ↓nn_93, ↓nn_94, ↓nn_95, ↓nn_96, ↓nn_97, ↓nn_98, ↓nn_99, ↓nn_100, ↓nn_101, ↓nn_102, ↓nn_103, ↓nn_104, ↓nn_105, ↓nn_106, ↓nn_107, ↓nn_108, p_bs, p_rq0, p_rq1, p_rz0, p_rz1, p_us, p_un, p_uj, ↓reduceIte, b2'.2.2, p_ar, show ((1 : Int32) = 0) = False from by decide, show (Int32.ofNat 103 = 115) = False from by decide, show (Int32.ofNat 103 = 100) = False from by decide, f8', p_sub1, Nat.add_sub_cancel]
        have hR3' : t_RT β n' tc' bg' (q_u2 (q_u2 J1' 87 10 (Int32.ofNat (t_sk β n' e' + 1))) 87 29 (Int32.ofNat (ng' + 1))) X' := by
          obtain ⟨a1', a2', a3', a4', a5', a6', a7'⟩ := hR2'
          exact ⟨a1', a2', by rw [p_uj _ _ _ _ _ (by decide)]; exact a3', by rw [p_uj _ _ _ _ _ (by decide)]; exact a4', a5', by rw [p_uc _ _ _ _ _ (by omega)]; exact a6', a7'⟩
        have hS2' := hSk' (q_u2 (q_u2 J1' 87 10 (Int32.ofNat (t_sk β n' e' + 1))) 87 29 (Int32.ofNat (ng' + 1))) (fun c' hc' => by rw [p_uc _ _ _ _ _ (by omega), p_uc _ _ _ _ _ (by omega)])
        obtain ⟨J2', g2', g'⟩ := s_mreadItems (e' := t_sk β n' e' + 1) (K' := t_K2) (a' := 26) (rc' := 97) (from' := 4 * ng') (len' := 24) hB' hR3' (by rw [p_uj _ _ _ _ _ (by decide), p_us]) (by omega) (by rw [p_uj _ _ _ _ _ (by decide), p_uj _ _ _ _ _ (by decide)]; exact g11') t_mk2 (t_sh26 hB' hS2') (sh_97 hB') (by show 4 * ng' + 4 ≤ 24; omega) (by decide) (by decide) (by decide)
        have g2'' : F_X12_readItems 87 (Int32.ofNat 103) 97 (Int32.ofNat (4 * ng')) 26 (q_u2 (q_u2 J1' 87 10 (Int32.ofNat (t_sk β n' e' + 1))) 87 29 (Int32.ofNat (ng' + 1)), X') = some ((), (J2', X')) := g2'
        simp (disch := omega) only [↓ce_87 hB', rf_87 hB', ↓nn_31, ↓nn_33, ↓nn_89, ↓nn_90, ↓nn_91, ↓nn_92, ↓nn_93, ↓nn_94, ↓nn_95, ↓nn_96, ↓nn_97, ↓nn_98, ↓nn_99, ↓nn_100, ↓nn_101, ↓nn_102, ↓nn_103, ↓nn_104, ↓nn_105, ↓nn_106, ↓nn_107, ↓nn_108, p_bs, p_rq0, p_rq1, p_rz0, p_rz1, p_us, p_un, p_uj, ↓reduceIte, g2'']
        refine ⟨J2', rfl, ?_⟩
        rcases g' with ⟨x', g1', g3', g4'⟩ | ⟨x', row', g1', g3', g4'⟩
        · left
          rw [g1']
          exact ⟨x', rfl, ⟨fun c' h3' h4' h5' h6' => by rw [g3'.1 c' h3' h6', p_uc _ _ _ _ _ h3', p_uc _ _ _ _ _ h3']; exact f1' c' h3' h4' h5' h6', fun j' h3' h4' h5' h6' h7' => by rw [g3'.2.1 j' h3' h4', p_uj _ _ _ _ _ h6', p_uj _ _ _ _ _ h3']; exact f2' j' h3' h5' h6' h7', g3'.2.2⟩, g4'⟩
        · right
          rw [g1']
          refine ⟨x', _, rfl, ⟨?_, ?_, g3'.2.2.1, ?_, ?_, ?_, ?_, ?_, ?_, f10', by show ng' + 1 ≤ 6; omega⟩, g4'⟩
          · intro c' h3' h4' h5' h6'; rw [g3'.1 c' h3' h6', p_uc _ _ _ _ _ h3', p_uc _ _ _ _ _ h3']; exact f1' c' h3' h4' h5' h6'
          · intro j' h3' h4' h5' h6'; rw [g3'.2.1 j' h3', p_uj _ _ _ _ _ h5', p_uj _ _ _ _ _ h3']; exact f2' j' h3' h4' h5' h6'
          · rw [g3'.1 93 (by decide) (by decide), p_uc _ _ _ _ _ (by decide), p_uc _ _ _ _ _ (by decide)]; exact f4'
          · rw [g3'.1 95 (by decide) (by decide), p_uc _ _ _ _ _ (by decide), p_uc _ _ _ _ _ (by decide)]; exact f5'
          · intro j' hj'
            show J2' 97 j' = Int32.ofNat (t_put rg' (4 * ng') 4 row' j')
            have hj' : j' < 4 * (ng' + 1) := hj'
            by_cases hjj' : j' < 4 * ng'
            · rw [t_putN _ _ _ _ _ hjj', g3'.2.2.2.2 j' (.inl hjj'), p_uc _ _ _ _ _ (by decide), p_uc _ _ _ _ _ (by decide)]
              exact f6' j' hjj'
            · have := g3'.2.2.2.1 (j' - 4 * ng') (by show j' - 4 * ng' < 4; omega)
              rw [show 4 * ng' + (j' - 4 * ng') = j' by omega] at this
              rw [this]
              have h7' := t_putS rg' row' (4 * ng') 4 (j' - 4 * ng') (by omega)
              rw [show 4 * ng' + (j' - 4 * ng') = j' by omega] at h7'
              rw [h7']
          · rw [g3'.2.1 28 (by decide), p_uj _ _ _ _ _ (by decide), p_uj _ _ _ _ _ (by decide)]; exact f7'
          · rw [g3'.2.1 29 (by decide), p_us]
          · rw [g3'.2.1 31 (by decide), p_uj _ _ _ _ _ (by decide), p_uj _ _ _ _ _ (by decide)]; exact f9'
      · have hif3' : ∀ {α : Type} (x' y' : α), (if t_is β n' (t_sk β n' e') 103 = true then (if ng' < 6 then x' else y') else y') = y' := by
          intro α x' y'
          by_cases h1' : t_is β n' (t_sk β n' e') 103 = true
          · rw [if_pos h1', if_neg (fun h2' => hg' ⟨h1', h2'⟩)]
          · rw [if_neg h1']
        simp only [hg', ↓reduceIte]
        rw [hif3', hfail]
        exact ⟨_, rfl, .inl ⟨_, rfl, hfm', hU'⟩⟩
end PH'
/-- how many clauses are read -/
def t_nc (h' : t_hs) : Nat := h'.2.2.2.1 + h'.2.2.2.2.1 + (if h'.2.2.2.2.2 = true then 1 else 0)
theorem t_claN {β : Nat → Nat} {n' e' x' : Nat} {h' h'' : t_hs} (hx' : t_cla β n' e' h' = .inr (x', h'')) : t_nc h'' = t_nc h' + 1 := by
  obtain ⟨rr', rd', rg', nd', ng', ru'⟩ := h'
  unfold t_cla at hx'
  simp only at hx'
  split at hx'
  · rename_i hc'
    split at hx'
    · cases hx'
    · cases hx'
      unfold t_nc
      simp only [hc'.2, Bool.false_eq_true, ↓reduceIte]
  · split at hx'
    · split at hx'
      · cases hx'
      · cases hx'
        unfold t_nc
        simp only
        omega
    · split at hx'
      · split at hx'
        · cases hx'
        · cases hx'
          unfold t_nc
          simp only
          omega
      · cases hx'
