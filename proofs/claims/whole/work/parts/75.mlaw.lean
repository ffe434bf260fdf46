/-! the reference's reader of LAWS: sums -/
def t_rh (I' : p_I) (k' : Nat) : Int32 := if k' < 6 then I' 91 (t_lets k') else 0
def t_QD (I' : p_I) (e' : Nat) (J' : p_I) : Prop := (∀ c', c' ≠ 87 → J' c' = I' c') ∧ (∀ j', j' ≠ 10 → j' ≠ 11 → j' ≠ 12 → J' 87 j' = I' 87 j') ∧ J' 87 11 = Int32.ofNat e'
def t_EN (β : Nat → Nat) (n' tc' bg' : Nat) (X' : p_X) (I' : p_I) (e' d' : Nat) : Prop := t_RT β n' tc' bg' I' X' ∧ I' 87 10 = Int32.ofNat e' ∧ e' ≤ n' ∧ I' 87 11 = -1 ∧ I' 87 12 = Int32.ofNat d'
theorem t_ENq {β : Nat → Nat} {n' tc' bg' e' e'' d' : Nat} {X' : p_X} {I' J' : p_I} (h' : t_EN β n' tc' bg' X' I' e' d') (hQ' : t_QE I' e'' J') (he' : e'' ≤ n') : t_EN β n' tc' bg' X' J' e'' d' := ⟨t_RTk h'.1 hQ', hQ'.2.2, he', by rw [hQ'.2.1 11 (by decide)]; exact h'.2.2.2.1, by rw [hQ'.2.1 12 (by decide)]; exact h'.2.2.2.2⟩
theorem t_QDx {I' J' : p_I} {e' : Nat} (h' : t_QX I' e' J') : t_QD I' e' J' := ⟨h'.1, fun j' h1' h2' _ => h'.2.1 j' h1' h2', h'.2.2⟩
theorem t_QDt {I' J' K' : p_I} {e' e'' : Nat} (h' : t_QE I' e' J') (h2' : t_QD J' e'' K') : t_QD I' e'' K' := ⟨fun c' hc' => by rw [h2'.1 c' hc', h'.1 c' hc'], fun j' h3' h4' h5' => by rw [h2'.2.1 j' h3' h4' h5', h'.2.1 j' h3'], h2'.2.2⟩
theorem t_rhq {I' J' : p_I} {e' : Nat} (h' : t_QE I' e' J') : t_rh J' = t_rh I' := by
  funext k'
  unfold t_rh
  rw [h'.1 91 (by decide)]
/-- the reader's outcome beside the spec -/
def t_MR (X' : p_X) (I' : p_I) (o' : Option (Int32 × q_Mem)) (r' : t_R) : Prop := match r' with
  | .inl x' => ∃ w' J'', o' = some (w', (J'', X')) ∧ t_QD I' x' J''
  | .inr (x', _, v') => ∃ w' J'', o' = some (w', (J'', X')) ∧ (t_Lb (t_rh I') → w' = v' (t_rh I')) ∧ t_QE I' x' J''
theorem t_byS (x' : Nat) (h' : x' < 128) : t_by x' = Int32.ofNat x' := by
  have hh' : ∀ x' : Fin 128, t_by x' = Int32.ofNat x' := by decide +kernel
  exact hh' ⟨x', h'⟩
theorem t_jn7 (a' b' : Int32) : t_jn (-7) a' b' = t_cl64 (a' + b').toInt64 := by
  unfold t_jn
  rw [if_neg (by decide), if_neg (by decide), if_neg (by decide), if_neg (by decide), if_neg (by decide), if_neg (by decide), if_neg (by decide), if_neg (by decide), if_pos rfl]
theorem t_jn8 (a' b' : Int32) : t_jn (-8) a' b' = t_cl64 (a' - b').toInt64 := by
  unfold t_jn
  rw [if_neg (by decide), if_neg (by decide), if_neg (by decide), if_neg (by decide), if_neg (by decide), if_neg (by decide), if_neg (by decide), if_pos rfl]
theorem t_jn9 (a' b' : Int32) : t_jn (-9) a' b' = t_cl64 (a'.toInt64 * b'.toInt64) := by
  unfold t_jn
  rw [if_neg (by decide), if_neg (by decide), if_neg (by decide), if_neg (by decide), if_neg (by decide), if_neg (by decide), if_pos rfl]
theorem t_jn10 (a' b' : Int32) : t_jn (-10) a' b' = if b' = 0 then 0 else t_cl64 (a' / b').toInt64 := by
  unfold t_jn
  rw [if_neg (by decide), if_neg (by decide), if_neg (by decide), if_neg (by decide), if_neg (by decide), if_pos rfl]
theorem t_jnP (a' b' : Int32) (ha' : -1000000 ≤ a'.toInt ∧ a'.toInt ≤ 1000000) (hb' : -1000000 ≤ b'.toInt ∧ b'.toInt ≤ 1000000) : t_cl64 (a'.toInt64 + b'.toInt64) = t_jn (-7) a' b' ∧ t_cl64 (a'.toInt64 - b'.toInt64) = t_jn (-8) a' b' ∧ t_cl64 (a'.toInt64 * b'.toInt64) = t_jn (-9) a' b' ∧ (b' ≠ 0 → t_cl64 (a'.toInt64 / b'.toInt64) = t_jn (-10) a' b') := by
  refine ⟨?_, ?_, ?_, fun h0' => ?_⟩
  · rw [t_jn7]
    congr 1
    apply Int64.toInt_inj.mp
    rw [Int32.toInt_toInt64, p_tadd _ _ (by omega) (by omega), Int64.toInt_add, Int32.toInt_toInt64, Int32.toInt_toInt64, Int.bmod_eq_of_le (by omega) (by omega)]
  · rw [t_jn8]
    congr 1
    apply Int64.toInt_inj.mp
    rw [Int32.toInt_toInt64, p_tsub _ _ (by omega) (by omega), Int64.toInt_sub, Int32.toInt_toInt64, Int32.toInt_toInt64, Int.bmod_eq_of_le (by omega) (by omega)]
  · rw [t_jn9]
  · rw [t_jn10, if_neg h0']
    congr 1
    apply Int64.toInt_inj.mp
    have hm' : a' ≠ Int32.minValue := by
      intro e'
      have := congrArg Int32.toInt e'
      rw [Int32.toInt_minValue] at this
      omega
    have hm2' : a'.toInt64 ≠ Int64.minValue := by
      intro e'
      have := congrArg Int64.toInt e'
      rw [Int32.toInt_toInt64, Int64.toInt_minValue] at this
      omega
    rw [Int32.toInt_toInt64, Int32.toInt_div_of_ne_left _ _ hm', Int64.toInt_div_of_ne_left _ _ hm2', Int32.toInt_toInt64, Int32.toInt_toInt64]
theorem t_jn0 (a' : Int32) : t_jn (-10) a' 0 = 0 := rfl
theorem t_lg0 (b' : Int32) : (lg_cmp b'.toInt64 0 = 0) = (b' = 0) := by
  have e0' : (0 : Int64).toInt = 0 := rfl
  have h' : (b'.toInt64 = 0) = (b' = 0) := by
    refine propext ⟨fun e' => ?_, fun e' => by rw [e']; rfl⟩
    apply Int32.toInt_inj.mp
    have := congrArg Int64.toInt e'
    rw [Int32.toInt_toInt64, e0'] at this
    exact this
  rw [← h']
  unfold lg_cmp
  by_cases h1' : (0 : Int64) < b'.toInt64
  · have : ¬ b'.toInt64 = 0 := fun e' => by rw [e'] at h1'; exact Int64.lt_irrefl h1'
    simp only [gt_iff_lt, h1', ↓reduceIte, this]
    decide
  · by_cases h2' : b'.toInt64 = 0
    · simp [h2']
    · simp only [gt_iff_lt, h1', h2', ↓reduceIte]
      decide
theorem t_pa2 {β : Nat → Nat} {n' : Nat} (ts' : Nat → Nat) (e' : Nat) : t_pa β n' ts' 2 e' = if t_is β n' e' (ts' 0) = true then some 0 else if t_is β n' e' (ts' 1) = true then some 1 else none := by
  unfold t_pa t_ix t_is
  rw [t_ixf, t_ixf, t_ixf]
  by_cases he' : e' < n'
  · by_cases h0' : ts' 0 = β e'
    · simp [he', h0']
    · have h0'' : ¬ β e' = ts' 0 := fun h' => h0' h'.symm
      by_cases h1' : ts' 1 = β e'
      · simp [he', h0', h0'', h1']
      · have h1'' : ¬ β e' = ts' 1 := fun h' => h1' h'.symm
        simp [he', h0', h0'', h1', h1'']
  · simp [he']
theorem t_sh32 {X' : p_X} {I' : p_I} (hB' : p_B X') (hS' : p_S I') : t_SH 32 t_lets 6 I' X' := t_SHof hS' 14 6 (by decide) (sh_32 hB') (rf_32 hB') (sh_33 hB') _ (by decide) (by decide) (by decide) (by decide)
theorem t_sh30 {X' : p_X} {I' : p_I} (hB' : p_B X') (hS' : p_S I') : t_SH 30 (t_gl0 [121]) 1 I' X' := t_SHof hS' 13 1 (by decide) (sh_30 hB') (rf_30 hB') (sh_31 hB') _ (by decide) (by decide) (by decide) (by decide)
section PL'
variable {X' : p_X} {I' : p_I} {β : Nat → Nat} {n' tc' bg' e' d' : Nat}
theorem s_mdigs (hB' : p_B X') {rec'' : Nat → Nat → q_Mem → Option (Int32 × q_Mem)} (hE' : t_EN β n' tc' bg' X' I' e' d') (hg' : t_dg β n' e' = true) :
    ∃ w' J'', J_X12_atom_86 rec'' 87 (I', X') = some (w', (J'', X')) ∧ ((∃ x', t_dgs β n' 4 e' 0 = .inl x' ∧ t_QD I' x' J'') ∨ (∃ x' v', t_dgs β n' 4 e' 0 = .inr (x', v') ∧ w' = Int32.ofNat v' ∧ t_QE I' x' J'')) := by
  obtain ⟨hR', he', hen', h11', h12'⟩ := hE'
  have hn' := hR'.2.2.2.2.1
  obtain ⟨z', h1', h2'⟩ := p_lp (fun z' => B_X12_atom_90 rec'' 87 z'.1 z'.2.1 z'.2.2)
    (fun i' z' => ∃ J' e1' v', z' = (Int32.ofNat v', Int32.ofNat i', (J', X')) ∧ t_QE I' e1' J' ∧ e1' ≤ n' ∧ (if t_dg β n' e1' = true then t_dgs β n' (4 - i') e1' v' else .inr (e1', v')) = t_dgs β n' 4 e' 0)
    (fun z' => (∃ x' J', t_dgs β n' 4 e' 0 = .inl x' ∧ z' = .inl (J', X') ∧ t_QE I' x' J') ∨ (∃ x' v' J', t_dgs β n' 4 e' 0 = .inr (x', v') ∧ z' = .inr (Int32.ofNat v', (J', X')) ∧ t_QE I' x' J')) 4 (by
      rintro i' z' hi' ⟨J', e1', v', rfl, j1', j2', j3'⟩
      have hR1' := t_RTk hR' j1'
      have hD' := s_mdig hB' hR1' j1'.2.2 j2'
      have g11' : J' 87 11 = -1 := by rw [j1'.2.1 11 (by decide)]; exact h11'
      unfold B_X12_atom_90
      simp (disch := omega) only [↓ce_87 hB', rf_87 hB', ↓nn_31, ↓nn_33, ↓nn_89, ↓nn_90, ↓nn_91, ↓nn_92, ↓nn_93, ↓nn_94, ↓nn_95, ↓nn_96, ↓nn_97, ↓nn_98, ↓nn_99, ↓nn_100, ↓nn_101, ↓nn_102, ↓nn_103, ↓nn_104, ↓nn_105, ↓nn_106, ↓nn_107, ↓nn_108, p_bs, p_rq0, p_rq1, p_rz0, p_rz1, p_us, p_un, p_uj, ↓reduceIte, hD', t_b0]
      by_cases hd' : t_dg β n' e1' = true
      · rw [if_pos hd'] at j3'
        obtain ⟨q1', q2', q3'⟩ := t_dgE hd'
        simp (disch := omega) only [↓ce_87 hB', rf_87 hB', ↓nn_31, ↓nn_33, ↓nn_89, ↓nn_90, ↓nn_91, ↓nn_92, ↓nn_93, ↓nn_94, ↓nn_95, ↓nn_96, ↓nn_97, ↓nn_98, ↓nn_99, ↓nn_100, ↓nn_101, ↓nn_102, ↓nn_103, ↓nn_104, ↓nn_105, ↓nn_106, ↓nn_107, ↓nn_108, p_bs, p_rq0, p_rq1, p_rz0, p_rz1, p_us, p_un, p_uj, ↓reduceIte, hd', Bool.true_eq_false, g11', p_cm]
        by_cases h4' : i' = 4
        · right
          subst h4'
          rw [Nat.sub_self, t_dgs] at j3'
          simp only [↓reduceIte]
          exact ⟨_, rfl, .inl ⟨e1', J', j3'.symm, rfl, j1'⟩⟩
        · left
          rw [show 4 - i' = (4 - (i' + 1)) + 1 by omega, t_dgs] at j3'
          have hv' : Int32.ofNat (10 * v' + β e1') - 48 = Int32.ofNat (10 * v' + (β e1' - 48)) := by
            rw [p_s48 _ (by omega)]
            congr 1
            omega
          simp (disch := omega) only [↓ce_87 hB', rf_87 hB', ↓nn_31, ↓nn_33, ↓nn_89, ↓nn_90, ↓nn_91, ↓nn_92, ↓nn_93, ↓nn_94, ↓nn_95, ↓nn_96, ↓nn_97, ↓nn_98, ↓nn_99, ↓nn_100, ↓nn_101, ↓nn_102, ↓nn_103, ↓nn_104, ↓nn_105, ↓nn_106, ↓nn_107, ↓nn_108, p_bs, p_rq0, p_rq1, p_rz0, p_rz1, p_us, p_un, p_uj, ↓reduceIte, h4', hR1'.1, hR1'.2.2.1, j1'.2.2, p_nns, p_ar, t_RTl hB' hR1' _ q1', t_byS _ (show β e1' < 128 by omega), hv']
          exact ⟨_, rfl, by omega, _, e1' + 1, _, rfl, t_QEu j1', by omega, j3'⟩
      · right
        have hd'' : t_dg β n' e1' = false := by simpa using hd'
        rw [if_neg hd'] at j3'
        simp only [hd'', ↓reduceIte]
        exact ⟨_, rfl, .inr ⟨e1', v', J', j3'.symm, rfl, j1'⟩⟩) 4 0 q_fu (0, 0, (I', X')) (by omega) (by unfold q_fu; omega) ⟨I', e', 0, rfl, t_QEs he', hen', by rw [if_pos hg']⟩
  unfold J_X12_atom_86
  rw [h1']
  simp only [p_bs]
  rcases h2' with ⟨x', J', c1', rfl, c3'⟩ | ⟨x', v', J', c1', rfl, c3'⟩
  · have g11' : J' 87 11 = -1 := by rw [c3'.2.1 11 (by decide)]; exact h11'
    simp (disch := omega) only [↓ce_87 hB', rf_87 hB', ↓nn_31, ↓nn_33, ↓nn_89, ↓nn_90, ↓nn_91, ↓nn_92, ↓nn_93, ↓nn_94, ↓nn_95, ↓nn_96, ↓nn_97, ↓nn_98, ↓nn_99, ↓nn_100, ↓nn_101, ↓nn_102, ↓nn_103, ↓nn_104, ↓nn_105, ↓nn_106, ↓nn_107, ↓nn_108, p_bs, p_rq0, p_rq1, p_rz0, p_rz1, p_us, p_un, p_uj, ↓reduceIte, s_fails hB' c3'.2.2 g11']
    exact ⟨_, _, rfl, .inl ⟨x', c1', t_QDx (t_QEx c3')⟩⟩
  · exact ⟨_, J', rfl, .inr ⟨x', v', c1', rfl, c3'⟩⟩
theorem s_goesIn (hB' : p_B X') (hE' : t_EN β n' tc' bg' X' I' e' d') (hd' : d' ≤ 6) : F_X12_goesIn 87 (I', X') = if d' = 6 then some (0, (q_u2 I' 87 11 (Int32.ofNat e'), X')) else some (1, (q_u2 (q_u2 I' 87 12 (Int32.ofNat (d' + 1))) 87 10 (Int32.ofNat (e' + 1)), X')) := by
  obtain ⟨hR', he', hen', h11', h12'⟩ := hE'
  have hF' := s_fails hB' he' h11'
  unfold F_X12_goesIn
  simp (disch := omega) only [↓ce_87 hB', rf_87 hB', ↓nn_31, ↓nn_33, ↓nn_89, ↓nn_90, ↓nn_91, ↓nn_92, ↓nn_93, ↓nn_94, ↓nn_95, ↓nn_96, ↓nn_97, ↓nn_98, ↓nn_99, ↓nn_100, ↓nn_101, ↓nn_102, ↓nn_103, ↓nn_104, ↓nn_105, ↓nn_106, ↓nn_107, ↓nn_108, p_bs, p_rq0, p_rq1, p_rz0, p_rz1, p_us, p_un, p_uj, ↓reduceIte, h12', p_cm, hF', he', p_ar]
theorem t_ENg (hE' : t_EN β n' tc' bg' X' I' e' d') (hlt' : e' < n') : t_EN β n' tc' bg' X' (q_u2 (q_u2 I' 87 12 (Int32.ofNat (d' + 1))) 87 10 (Int32.ofNat (e' + 1))) (e' + 1) (d' + 1) := by
  obtain ⟨⟨a1', a2', a3', a4', a5', a6', a7'⟩, he', hen', h11', h12'⟩ := hE'
  refine ⟨⟨a1', a2', ?_, ?_, a5', ?_, a7'⟩, by rw [p_us], by omega, ?_, ?_⟩
  · simp (disch := omega) only [p_uj]; exact a3'
  · simp (disch := omega) only [p_uj]; exact a4'
  · rw [p_uc _ _ _ _ _ (by omega), p_uc _ _ _ _ _ (by omega)]; exact a6'
  · simp (disch := omega) only [p_uj]; exact h11'
  · simp (disch := omega) only [p_uj, p_us]
theorem t_QEg {I' K' : p_I} {e' x' d' : Nat} (h12' : I' 87 12 = Int32.ofNat d') (h' : t_QE (q_u2 (q_u2 I' 87 12 (Int32.ofNat (d' + 1))) 87 10 (Int32.ofNat (e' + 1))) x' K') : t_QE I' x' (q_u2 K' 87 12 (Int32.ofNat d')) := by
  refine ⟨fun c' hc' => ?_, fun j' hj' => ?_, ?_⟩
  · rw [p_uc _ _ _ _ _ hc', h'.1 c' hc', p_uc _ _ _ _ _ hc', p_uc _ _ _ _ _ hc']
  · by_cases e12' : j' = 12
    · subst e12'; rw [p_us, h12']
    · rw [p_uj _ _ _ _ _ e12', h'.2.1 j' hj', p_uj _ _ _ _ _ hj', p_uj _ _ _ _ _ e12']
  · rw [p_uj _ _ _ _ _ (by decide)]; exact h'.2.2
theorem t_QDg {I' K' : p_I} {e' x' d' : Nat} (h' : t_QD (q_u2 (q_u2 I' 87 12 (Int32.ofNat (d' + 1))) 87 10 (Int32.ofNat (e' + 1))) x' K') : t_QD I' x' K' := by
  refine ⟨fun c' hc' => ?_, fun j' h1' h2' h3' => ?_, h'.2.2⟩
  · rw [h'.1 c' hc', p_uc _ _ _ _ _ hc', p_uc _ _ _ _ _ hc']
  · rw [h'.2.1 j' h1' h2' h3', p_uj _ _ _ _ _ h1', p_uj _ _ _ _ _ h3']
theorem t_rhg (I' : p_I) (a' b' : Int32) : t_rh (q_u2 (q_u2 I' 87 12 a') 87 10 b') = t_rh I' := by
  funext k'
  unfold t_rh
  rw [p_uc _ _ _ _ _ (by decide), p_uc _ _ _ _ _ (by decide)]
theorem s_matom (hB' : p_B X') (hS' : p_S I') {rec'' : Nat → Nat → q_Mem → Option (Int32 × q_Mem)} {inner : Option (Nat → t_R)} (hd' : d' ≤ 6) (hin' : (d' = 6 ∧ inner = none) ∨ (d' < 6 ∧ ∃ S', inner = some S' ∧ (∃ a', ∀ e', e' ≤ n' → t_GR n' a' e' 0 False (S' e')) ∧ ∀ I' e', p_S I' → t_EN β n' tc' bg' X' I' e' (d' + 1) → t_MR X' I' (rec'' 1 87 (I', X')) (S' e')))
    (hE' : t_EN β n' tc' bg' X' I' e' d') : t_MR X' I' (F_X12_atom rec'' 87 (I', X')) (t_atm β n' inner e') := by
  obtain ⟨hR', he', hen', h11', h12'⟩ := id hE'
  have hn' := hR'.2.2.2.2.1
  have hβ := hR'.2.2.2.2.2.2
  obtain ⟨J1', b1', b2'⟩ := s_look hB' hR' he' hen'
  have hL' := t_skL β n' e'
  have hU' := t_skU β n' e' hen'
  have hE1' := t_ENq hE' b2' hU'
  have hS1' : p_S J1' := fun k' hk' => by rw [b2'.1 k' (by omega)]; exact hS' k' hk'
  have hia' := s_isAmong (e' := t_sk β n' e') (t_sh32 hB' hS1') hβ
  unfold F_X12_atom t_atm
  rw [show (91 : Int32) = Int32.ofNat 91 from rfl]
  simp (disch := omega) only [↓ce_87 hB', rf_87 hB', ↓nn_31, ↓nn_33, ↓nn_89, ↓nn_90, ↓nn_91, ↓nn_92, ↓nn_93, ↓nn_94, ↓nn_95, ↓nn_96, ↓nn_97, ↓nn_98, ↓nn_99, ↓nn_100, ↓nn_101, ↓nn_102, ↓nn_103, ↓nn_104, ↓nn_105, ↓nn_106, ↓nn_107, ↓nn_108, p_bs, p_rq0, p_rq1, p_rz0, p_rz1, p_us, p_un, p_uj, ↓reduceIte, b1', hia', t_b0, t_sgE2 hβ _ _ (show (91 : Nat) < 256 by decide), t_isE]
  cases hpa' : t_pa β n' t_lets 6 (t_sk β n' e') with
  | some k' =>
    obtain ⟨p1', p2', p3'⟩ := t_paB hpa'
    have h128 : β (t_sk β n' e') < 128 := by
      rw [← p3']
      have hh' : ∀ k' : Fin 6, t_lets k' < 128 := by decide
      exact hh' ⟨k', p2'⟩
    rw [t_sgP p1']
    simp (disch := omega) only [↓ce_87 hB', rf_87 hB', ↓ce_91 hB', ↓nn_31, ↓nn_33, ↓nn_89, ↓nn_90, ↓nn_91, ↓nn_92, ↓nn_93, ↓nn_94, ↓nn_95, ↓nn_96, ↓nn_97, ↓nn_98, ↓nn_99, ↓nn_100, ↓nn_101, ↓nn_102, ↓nn_103, ↓nn_104, ↓nn_105, ↓nn_106, ↓nn_107, ↓nn_108, p_bs, p_rq0, p_rq1, p_rz0, p_rz1, p_us, p_un, p_uj, ↓reduceIte, Option.isSome_some, Bool.true_eq_false, b2'.2.2, p_ar]
    refine ⟨_, _, rfl, fun _ => ?_, t_QEu b2'⟩
    show J1' 91 (β (t_sk β n' e')) = if k' < 6 then I' 91 (t_lets k') else 0
    rw [if_pos p2', p3', b2'.1 91 (by decide)]
  | none =>
    simp only [Option.isSome_none, ↓reduceIte]
    have hnum : t_is β n' (t_sk β n' e') 91 = false ∨ inner = none → t_MR X' I' ((F_X12_isDigit 87 (J1', X')).bind (fun u13' => if u13' = 0 then (F_X12_fails 87 (J1', X')).bind (fun x' => J_X12_atom_86 rec'' 87 x'.2) else J_X12_atom_86 rec'' 87 (J1', X'))) (match t_nm β n' 4 0 9999 (t_sk β n' e') with
      | .inl x' => .inl x'
      | .inr (x', v') => .inr (x', [Int32.ofNat v'], fun _ => Int32.ofNat v')) := by
      intro _
      have hD' := s_mdig hB' hE1'.1 b2'.2.2 hU'
      have hF' := s_fails hB' b2'.2.2 hE1'.2.2.2.1
      unfold t_nm
      rw [t_skk]
      simp (disch := omega) only [↓ce_87 hB', rf_87 hB', ↓nn_31, ↓nn_33, ↓nn_89, ↓nn_90, ↓nn_91, ↓nn_92, ↓nn_93, ↓nn_94, ↓nn_95, ↓nn_96, ↓nn_97, ↓nn_98, ↓nn_99, ↓nn_100, ↓nn_101, ↓nn_102, ↓nn_103, ↓nn_104, ↓nn_105, ↓nn_106, ↓nn_107, ↓nn_108, p_bs, p_rq0, p_rq1, p_rz0, p_rz1, p_us, p_un, p_uj, ↓reduceIte, hD', t_b0, hF']
      by_cases hg' : t_dg β n' (t_sk β n' e') = true
      · rw [if_pos hg']
        simp only [hg', Bool.true_eq_false, ↓reduceIte]
        obtain ⟨w', J2', d1', d2'⟩ := s_mdigs (rec'' := rec'') hB' hE1' hg'
        rw [d1']
        rcases d2' with ⟨x', c1', c2'⟩ | ⟨x', v', c1', c2', c3'⟩
        · rw [c1']
          exact ⟨w', J2', rfl, t_QDt b2' c2'⟩
        · have hv' := t_dgsV 4 _ 0 x' v' c1' hg'
          have hv9' : (0 : Nat) ≤ v' ∧ v' ≤ 9999 := ⟨by omega, by omega⟩
          rw [c1']
          simp only
          rw [if_pos hv9']
          exact ⟨w', J2', rfl, fun _ => c2', t_QEt b2' c3'⟩
      · have hg'' : t_dg β n' (t_sk β n' e') = false := by simpa using hg'
        rw [if_neg hg']
        simp only [hg'', ↓reduceIte]
        have hB2' : J_X12_atom_86 rec'' 87 (q_u2 J1' 87 11 (Int32.ofNat (t_sk β n' e')), X') = some (0, (q_u2 J1' 87 11 (Int32.ofNat (t_sk β n' e')), X')) := by
          have hR2' : t_RT β n' tc' bg' (q_u2 J1' 87 11 (Int32.ofNat (t_sk β n' e'))) X' := by
            obtain ⟨a1', a2', a3', a4', a5', a6', a7'⟩ := hE1'.1
            exact ⟨a1', a2', by rw [p_uj _ _ _ _ _ (by decide)]; exact a3', by rw [p_uj _ _ _ _ _ (by decide)]; exact a4', a5', by rw [p_uc _ _ _ _ _ (by omega)]; exact a6', a7'⟩
          have hD2' := s_mdig (e' := t_sk β n' e') hB' hR2' (by rw [p_uj _ _ _ _ _ (by decide)]; exact b2'.2.2) hU'
          unfold J_X12_atom_86
          have hb' : B_X12_atom_90 rec'' 87 0 0 (q_u2 J1' 87 11 (Int32.ofNat (t_sk β n' e')), X') = some (.inr (.inr (0, (q_u2 J1' 87 11 (Int32.ofNat (t_sk β n' e')), X')))) := by
            unfold B_X12_atom_90
            simp (disch := omega) only [↓ce_87 hB', rf_87 hB', ↓nn_31, ↓nn_33, ↓nn_89, ↓nn_90, ↓nn_91, ↓nn_92, ↓nn_93, ↓nn_94, ↓nn_95, ↓nn_96, ↓nn_97, ↓nn_98, ↓nn_99, ↓nn_100, ↓nn_101, ↓nn_102, ↓nn_103, ↓nn_104, ↓nn_105, ↓nn_106, ↓nn_107, ↓nn_108, p_bs, p_rq0, p_rq1, p_rz0, p_rz1, p_us, p_un, p_uj, ↓reduceIte, hD2', t_b0, hg'']
          rw [p_fu, p_lpE (e' := .inr (0, (q_u2 J1' 87 11 (Int32.ofNat (t_sk β n' e')), X'))) hb']
          rfl
        rw [hB2']
        exact ⟨_, _, rfl, t_QDt b2' (t_QDx (t_QEx (t_QEs b2'.2.2)))⟩
    cases h91' : t_is β n' (t_sk β n' e') 91
    · simp only [↓reduceIte, Bool.false_eq_true]
      exact hnum (.inl h91')
    · have hlt' := t_is1 h91'
      have hG' := s_goesIn hB' hE1' hd'
      simp only [↓reduceIte, hG', p_ob (sh_87 hB')]
      rcases hin' with ⟨rfl, rfl⟩ | ⟨hd6', S', rfl, ⟨a0', hSx'⟩, hrec⟩
      · have hdg' : t_dg β n' (t_sk β n' e') = false := by
          rw [← t_isE] at h91'
          unfold t_dg t_dig
          rw [h91'.2]
          simp
        have hnm' : t_nm β n' 4 0 9999 (t_sk β n' e') = .inl (t_sk β n' e') := by
          unfold t_nm
          rw [t_skk, if_neg (by rw [hdg']; decide)]
        simp only [↓reduceIte, p_bs, hnm']
        exact ⟨_, _, rfl, t_QDt b2' (t_QDx (t_QEx (t_QEs b2'.2.2)))⟩
      · have hne' : ¬ d' = 6 := by omega
        have hEg' := t_ENg hE1' hlt'
        have hSg' : p_S (q_u2 (q_u2 J1' 87 12 (Int32.ofNat (d' + 1))) 87 10 (Int32.ofNat (t_sk β n' e' + 1))) := fun k' hk' => by rw [p_uc _ _ _ _ _ (by omega), p_uc _ _ _ _ _ (by omega)]; exact hS1' k' hk'
        have hr' := hrec _ (t_sk β n' e' + 1) hSg' hEg'
        have hgr' := hSx' (t_sk β n' e' + 1) (by omega)
        simp only [hne', ↓reduceIte, p_bs, show ((1 : Int32) = 0) = False from by decide, p_ob (sh_87 hB')]
        cases hs' : S' (t_sk β n' e' + 1) with
        | inl x' =>
          rw [hs'] at hr' hgr'
          obtain ⟨w', J3', r1', r2'⟩ := hr'
          have hxn' : ¬ J3' 87 11 = -1 := by rw [r2'.2.2]; exact p_of1 x' (by have := hgr'.2; omega)
          simp (disch := omega) only [↓ce_87 hB', rf_87 hB', ↓nn_31, ↓nn_33, ↓nn_89, ↓nn_90, ↓nn_91, ↓nn_92, ↓nn_93, ↓nn_94, ↓nn_95, ↓nn_96, ↓nn_97, ↓nn_98, ↓nn_99, ↓nn_100, ↓nn_101, ↓nn_102, ↓nn_103, ↓nn_104, ↓nn_105, ↓nn_106, ↓nn_107, ↓nn_108, p_bs, p_rq0, p_rq1, p_rz0, p_rz1, p_us, p_un, p_uj, ↓reduceIte, r1', s_takesN hB' hxn']
          exact ⟨_, J3', rfl, t_QDt b2' (t_QDg r2')⟩
        | inr z' =>
          obtain ⟨x', c', v'⟩ := z'
          rw [hs'] at hr' hgr'
          obtain ⟨w', J3', r1', r2', r3'⟩ := hr'
          have hxn' := hgr'.2.1
          have hE3' := t_ENq hEg' r3' hxn'
          rcases s_takes hB' hE3'.1 hE3'.2.1 hxn' hE3'.2.2.2.1 93 (by decide) with ⟨u1', J4', u2', u3'⟩ | ⟨u1', J4', u2', u3'⟩
          · have u2'' : F_X12_takes 87 93 (J3', X') = some (0, (J4', X')) := u2'
            simp (disch := omega) only [↓ce_87 hB', rf_87 hB', ↓nn_31, ↓nn_33, ↓nn_89, ↓nn_90, ↓nn_91, ↓nn_92, ↓nn_93, ↓nn_94, ↓nn_95, ↓nn_96, ↓nn_97, ↓nn_98, ↓nn_99, ↓nn_100, ↓nn_101, ↓nn_102, ↓nn_103, ↓nn_104, ↓nn_105, ↓nn_106, ↓nn_107, ↓nn_108, p_bs, p_rq0, p_rq1, p_rz0, p_rz1, p_us, p_un, p_uj, ↓reduceIte, r1', u2'']
            rw [u1']
            simp only [Bool.false_eq_true, ↓reduceIte]
            exact ⟨_, J4', rfl, t_QDt b2' (t_QDg (t_QDt r3' (t_QDx u3')))⟩
          · have u2'' : F_X12_takes 87 93 (J3', X') = some (1, (J4', X')) := u2'
            have l12' : J4' 87 12 = Int32.ofNat (d' + 1) := by rw [u3'.2.1 12 (by decide)]; exact hE3'.2.2.2.2
            simp (disch := omega) only [↓ce_87 hB', rf_87 hB', ↓nn_31, ↓nn_33, ↓nn_89, ↓nn_90, ↓nn_91, ↓nn_92, ↓nn_93, ↓nn_94, ↓nn_95, ↓nn_96, ↓nn_97, ↓nn_98, ↓nn_99, ↓nn_100, ↓nn_101, ↓nn_102, ↓nn_103, ↓nn_104, ↓nn_105, ↓nn_106, ↓nn_107, ↓nn_108, p_bs, p_rq0, p_rq1, p_rz0, p_rz1, p_us, p_un, p_uj, ↓reduceIte, r1', u2'', show ((1 : Int32) = 0) = False from by decide, l12', p_sub1']
            rw [u1']
            simp only [↓reduceIte]
            refine ⟨_, _, rfl, fun hb' => ?_, t_QEt b2' (t_QEg hE1'.2.2.2.2 (t_QEt r3' u3'))⟩
            have := r2' (by rw [t_rhg, t_rhq b2']; exact hb')
            rw [t_rhg, t_rhq b2'] at this
            exact this
end PL'
