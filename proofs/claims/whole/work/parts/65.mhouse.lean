/-! the reference's reader of a HOUSE -/
theorem t_cnF (p' : Nat → Bool) (m' k' : Nat) (hk' : k' < m') (h' : p' k' = false) : t_cn p' m' < m' := by
  induction m' with
  | zero => omega
  | succ m' ih' =>
    rw [t_cn]
    by_cases e' : k' = m'
    · subst e'
      have := t_cnL p' k'
      rw [h']; simp; omega
    · have := ih' (by omega)
      split <;> omega
theorem t_cnU (p' : Nat → Bool) (m' k' : Nat) (hk' : k' < m') (h' : p' k' = false) : t_cn (fun j' => p' j' || j' == k') m' = t_cn p' m' + 1 := by
  induction m' with
  | zero => omega
  | succ m' ih' =>
    rw [t_cn, t_cn]
    by_cases e' : k' = m'
    · subst e'
      rw [t_cnC (fun j' => p' j' || j' == k') p' k' (fun g' hg' => by
        have : g' ≠ k' := by omega
        simp [this])]
      simp [h']
    · rw [ih' (by omega)]
      have : m' ≠ k' := fun z' => e' z'.symm
      simp only [beq_false_of_ne this, Bool.or_false]
      omega
def t_MI (I' : p_I) (rc' from' m' e' : Nat) (row' : Nat → Nat) (J' : p_I) : Prop := (∀ c', c' ≠ 87 → c' ≠ rc' → J' c' = I' c') ∧ (∀ j', j' ≠ 10 → J' 87 j' = I' 87 j') ∧ J' 87 10 = Int32.ofNat e' ∧ (∀ k', k' < m' → J' rc' (from' + k') = Int32.ofNat (row' k')) ∧ (∀ j', j' < from' ∨ from' + m' ≤ j' → J' rc' j' = I' rc' j')
def t_MX (I' : p_I) (rc' e' : Nat) (J' : p_I) : Prop := (∀ c', c' ≠ 87 → c' ≠ rc' → J' c' = I' c') ∧ (∀ j', j' ≠ 10 → j' ≠ 11 → J' 87 j' = I' 87 j') ∧ J' 87 11 = Int32.ofNat e'
theorem t_MIq {I' J' K' : p_I} {rc' from' m' e' e'' : Nat} {row' : Nat → Nat} (h' : t_MI I' rc' from' m' e' row' J') (hr' : rc' ≠ 87) (h2' : t_QE J' e'' K') : t_MI I' rc' from' m' e'' row' K' := ⟨fun c' h3' h4' => by rw [h2'.1 c' h3', h'.1 c' h3' h4'], fun j' h3' => by rw [h2'.2.1 j' h3', h'.2.1 j' h3'], h2'.2.2, by rw [h2'.1 rc' hr']; exact h'.2.2.2.1, by rw [h2'.1 rc' hr']; exact h'.2.2.2.2⟩
theorem t_MIx {I' J' K' : p_I} {rc' from' m' e' e'' : Nat} {row' : Nat → Nat} (h' : t_MI I' rc' from' m' e' row' J') (h2' : t_QX J' e'' K') : t_MX I' rc' e'' K' := ⟨fun c' h3' h4' => by rw [h2'.1 c' h3', h'.1 c' h3' h4'], fun j' h3' h4' => by rw [h2'.2.1 j' h3' h4', h'.2.1 j' h3'], h2'.2.2⟩
theorem t_RTi {β : Nat → Nat} {n' tc' bg' e' : Nat} {I' J' : p_I} {X' : p_X} {rc' from' m' : Nat} {row' : Nat → Nat} (hR' : t_RT β n' tc' bg' I' X') (h' : t_MI I' rc' from' m' e' row' J') (hr' : rc' ≠ tc') : t_RT β n' tc' bg' J' X' := by
  obtain ⟨a1', a2', a3', a4', a5', a6', a7'⟩ := hR'
  exact ⟨a1', a2', by rw [h'.2.1 8 (by decide)]; exact a3', by rw [h'.2.1 9 (by decide)]; exact a4', a5', by rw [h'.1 tc' (by omega) hr'.symm]; exact a6', a7'⟩
/-- the reference's numbers of a sort of clause -/
def t_MK (kd' : Int32) (K' : t_KC) : Prop := (∀ k', k' < K'.2.1 → ∀ M' : q_Mem, F_X12_usual kd' (Int32.ofNat k') M' = some (Int32.ofNat (K'.2.2.2.2 k')) ∧ F_X12_mostOf kd' (Int32.ofNat k') M' = some (Int32.ofNat (K'.2.2.2.1 k')) ∧ (if kd' = 103 then (if Int32.ofNat k' = 1 then (1 : Int32) else 0) else 0) = Int32.ofNat (K'.2.2.1 k')) ∧ K'.2.1 ≤ 4 ∧ 0 < K'.2.1 ∧ (∀ k', K'.2.2.1 k' < 1000 ∧ K'.2.2.2.1 k' < 1000)
theorem t_mk0 : t_MK 115 t_K0 := ⟨fun k' hk' M' => by
  have hk' : k' < 3 := hk'
  match k', hk' with
  | 0, _ => exact ⟨rfl, rfl, by decide⟩
  | 1, _ => exact ⟨rfl, rfl, by decide⟩
  | 2, _ => exact ⟨rfl, rfl, by decide⟩, by decide, by decide, fun k' => ⟨t_gl0B _ (by decide) k', t_gl0B _ (by decide) k'⟩⟩
theorem t_mk1 : t_MK 100 t_K1 := ⟨fun k' hk' M' => by
  have hk' : k' < 3 := hk'
  match k', hk' with
  | 0, _ => exact ⟨rfl, rfl, by decide⟩
  | 1, _ => exact ⟨rfl, rfl, by decide⟩
  | 2, _ => exact ⟨rfl, rfl, by decide⟩, by decide, by decide, fun k' => ⟨t_gl0B _ (by decide) k', t_gl0B _ (by decide) k'⟩⟩
theorem t_mk2 : t_MK 103 t_K2 := ⟨fun k' hk' M' => by
  have hk' : k' < 4 := hk'
  match k', hk' with
  | 0, _ => exact ⟨rfl, rfl, by decide⟩
  | 1, _ => exact ⟨rfl, rfl, by decide⟩
  | 2, _ => exact ⟨rfl, rfl, by decide⟩
  | 3, _ => exact ⟨rfl, rfl, by decide⟩, by decide, by decide, fun k' => ⟨t_gl0B _ (by decide) k', t_gl0B _ (by decide) k'⟩⟩
theorem t_nxS (x' : Nat) : t_nx (some x') = Int32.ofNat x' := rfl
theorem p_of1 (x' : Nat) (h' : x' < 2147483648) : Int32.ofNat x' ≠ -1 := fun e' => by rw [p_ofN1 x' h'] at e'; exact e'
section PH'
variable {X' : p_X} {I' : p_I} {β : Nat → Nat} {n' e' a' rc' from' len' tc' bg' : Nat} {K' : t_KC} {kd' : Int32}
theorem s_musual (hK' : t_MK kd' K') (hS' : t_SH a' K'.1 K'.2.1 I' X') (hrc' : X'.2.2[rc']? = some (.inr (0, len'))) (hl' : from' + K'.2.1 ≤ len') (hlen : len' < 1000) (h36' : q_NS ≤ rc') (har' : a' ≠ rc' ∧ a' + 1 ≠ rc') :
    ∃ J', q_lp (fun z' => B_X12_readItems_3 87 kd' rc' (Int32.ofNat from') a' z'.1 z'.2) q_fu ((0 : Int32), (I', X')) = some (J', X') ∧ (∀ c', c' ≠ rc' → J' c' = I' c') ∧ (∀ k', k' < K'.2.1 → J' rc' (from' + k') = Int32.ofNat (K'.2.2.2.2 k')) ∧ (∀ j', j' < from' ∨ from' + K'.2.1 ≤ j' → J' rc' j' = I' rc' j') := by
  obtain ⟨k1', k2', k3', k4'⟩ := hK'
  obtain ⟨z', h1', J', rfl, h2'⟩ := p_lp (fun z' => B_X12_readItems_3 87 kd' rc' (Int32.ofNat from') a' z'.1 z'.2) (fun i' z' => ∃ J', z' = (Int32.ofNat i', (J', X')) ∧ (∀ c', c' ≠ rc' → J' c' = I' c') ∧ (∀ k', k' < i' → J' rc' (from' + k') = Int32.ofNat (K'.2.2.2.2 k')) ∧ (∀ j', j' < from' ∨ from' + K'.2.1 ≤ j' → J' rc' j' = I' rc' j'))
    (fun z' => ∃ J', z' = (J', X') ∧ (∀ c', c' ≠ rc' → J' c' = I' c') ∧ (∀ k', k' < K'.2.1 → J' rc' (from' + k') = Int32.ofNat (K'.2.2.2.2 k')) ∧ (∀ j', j' < from' ∨ from' + K'.2.1 ≤ j' → J' rc' j' = I' rc' j')) K'.2.1 (by
      rintro i' z' hi' ⟨J', rfl, j1', j2', j3'⟩
      have hS'' : t_SH a' K'.1 K'.2.1 J' X' := by
        obtain ⟨h1', h3', h4', h5', h6', h7'⟩ := hS'
        exact ⟨h1', h3', h4', by rw [j1' a' har'.1]; exact h5', by rw [j1' _ har'.2]; exact h6', h7'⟩
      have hln' := s_len hS''
      unfold B_X12_readItems_3
      by_cases hlt' : i' < K'.2.1
      · left
        have hu' := (k1' i' hlt' (J', X')).1
        simp (disch := omega) only [p_ob hS'.1, hln', p_bs, p_lt, hlt', ↓reduceIte, hu', p_ar, p_tI hrc' (by omega) h36']
        refine ⟨_, rfl, True.intro, _, rfl, ?_, ?_, ?_⟩
        · intro c' hc'; rw [p_uc _ _ _ _ _ hc']; exact j1' c' hc'
        · intro k' hk'
          by_cases e' : k' = i'
          · subst e'; rw [p_us]
          · rw [p_uj _ _ _ _ _ (by omega)]; exact j2' k' (by omega)
        · intro j' hj'; rw [p_uj _ _ _ _ _ (by omega)]; exact j3' j' hj'
      · right
        have hi'' : i' = K'.2.1 := by omega
        subst hi''
        simp (disch := omega) only [p_ob hS'.1, hln', p_bs, p_lt, Nat.lt_irrefl, ↓reduceIte]
        exact ⟨_, rfl, J', rfl, j1', j2', j3'⟩) K'.2.1 0 q_fu (0, (I', X')) (by omega) (by unfold q_fu; omega) ⟨I', rfl, fun _ _ => rfl, fun k' hk' => absurd hk' (by omega), fun _ _ => rfl⟩
  exact ⟨J', h1', h2'⟩
theorem s_mreadItems (hB' : p_B X') (hR' : t_RT β n' tc' bg' I' X') (he' : I' 87 10 = Int32.ofNat e') (hen' : e' ≤ n') (h11' : I' 87 11 = -1) (hK' : t_MK kd' K') (hS' : t_SH a' K'.1 K'.2.1 I' X') (hrc' : X'.2.2[rc']? = some (.inr (0, len'))) (hl' : from' + K'.2.1 ≤ len') (hlen : len' < 1000) (hr' : 90 ≤ rc') (ha' : a' < 34) :
    ∃ J', F_X12_readItems 87 kd' rc' (Int32.ofNat from') a' (I', X') = some ((), (J', X')) ∧
      ((∃ x', t_itK β n' K' e' = .inl x' ∧ t_MX I' rc' x' J' ∧ x' ≤ n') ∨ (∃ x' row', t_itK β n' K' e' = .inr (x', row') ∧ t_MI I' rc' from' K'.2.1 x' row' J' ∧ x' ≤ n')) := by
  have h36' : q_NS ≤ rc' := by unfold q_NS; omega
  obtain ⟨J0', u1', u2', u3', u4'⟩ := s_musual hK' hS' hrc' hl' hlen h36' ⟨by omega, by omega⟩
  obtain ⟨k1', k2', k3', k4'⟩ := id hK'
  have htc' : tc' = 88 ∨ tc' = 89 := by
    rcases hR'.2.1 with h' | h'
    · exact .inl h'.1
    · exact .inr h'.1
  have hC0' : t_MI I' rc' from' K'.2.1 e' K'.2.2.2.2 J0' := ⟨fun c' h1' h2' => u2' c' h2', fun j' h1' => by rw [u2' 87 (by omega)], by rw [u2' 87 (by omega)]; exact he', u3', u4'⟩
  have hSk' : ∀ J' : p_I, (∀ c', c' ≠ 87 → c' ≠ rc' → J' c' = I' c') → t_SH a' K'.1 K'.2.1 J' X' := fun J' hJ' => by
    obtain ⟨h1', h3', h4', h5', h6', h7'⟩ := hS'
    exact ⟨h1', h3', h4', by rw [hJ' a' (by omega) (by omega)]; exact h5', by rw [hJ' _ (by omega) (by omega)]; exact h6', h7'⟩
  have hβ := hR'.2.2.2.2.2.2
  obtain ⟨J1', b1', b2'⟩ := s_look hB' (t_RTi hR' hC0' (by omega)) hC0'.2.2.1 hen'
  have hC1' := t_MIq hC0' (by omega) b2'
  have hU0' := t_skU β n' e' hen'
  obtain ⟨z', h1', h2'⟩ := p_lp (fun z' => B_X12_readItems_45 87 kd' rc' (Int32.ofNat from') a' z'.1 z'.2.1 z'.2.2)
    (fun i' z' => (∃ J' e1' had' row', z' = (t_B had', t_nx (t_pa β n' K'.1 K'.2.1 e1'), (J', X')) ∧ t_MI I' rc' from' K'.2.1 e1' row' J' ∧ e1' ≤ n' ∧ t_sk β n' e1' = e1' ∧ t_cn had' K'.2.1 = i' ∧ i' ≤ K'.2.1 ∧ t_it β n' K'.1 K'.2.1 K'.2.2.1 K'.2.2.2.1 (K'.2.1 + 1 - i') e1' had' row' = t_itK β n' K' e') ∨ (∃ J' x' u' v', z' = (u', v', (J', X')) ∧ t_itK β n' K' e' = .inl x' ∧ t_MX I' rc' x' J' ∧ x' ≤ n'))
    (fun z' => (∃ x' J' row', t_itK β n' K' e' = .inl x' ∧ z' = .inl (J', X') ∧ t_MI I' rc' from' K'.2.1 x' row' J' ∧ x' ≤ n') ∨ (∃ x' J', t_itK β n' K' e' = .inl x' ∧ z' = .inr (J', X') ∧ t_MX I' rc' x' J' ∧ x' ≤ n') ∨ (∃ x' row' J', t_itK β n' K' e' = .inr (x', row') ∧ z' = .inr (J', X') ∧ t_MI I' rc' from' K'.2.1 x' row' J' ∧ x' ≤ n')) (K'.2.1 + 1) (by
      rintro i' z' hi' (⟨J', e1', had', row', rfl, j1', j2', j3', j4', j5', j6'⟩ | ⟨J', x', u', v', rfl, j1', j2', j3'⟩)
      · have hR1' := t_RTi hR' j1' (by omega)
        have g11' : J' 87 11 = -1 := by rw [j1'.2.1 11 (by decide)]; exact h11'
        rw [show K'.2.1 + 1 - i' = (K'.2.1 + 1 - (i' + 1)) + 1 by omega, t_it, j3'] at j6'
        unfold B_X12_readItems_45
        cases hpa' : t_pa β n' K'.1 K'.2.1 e1' with
        | none =>
          right
          rw [hpa'] at j6'
          simp only [t_nx, ↓reduceIte]
          exact ⟨_, rfl, .inr (.inr ⟨e1', row', J', j6'.symm, rfl, j1', j2'⟩)⟩
        | some k' =>
          rw [hpa'] at j6'
          obtain ⟨p1', p2', p3'⟩ := t_paB hpa'
          have hh1' := s_hasB had' k' (by omega) (J', X')
          have hb1' : Int32.ofNat k' ≠ -1 := p_of1 k' (by omega)
          simp (disch := omega) only [↓ce_87 hB', rf_87 hB', ↓nn_31, ↓nn_33, ↓nn_89, ↓nn_90, ↓nn_91, ↓nn_92, ↓nn_93, ↓nn_94, ↓nn_95, ↓nn_96, ↓nn_97, ↓nn_98, ↓nn_99, ↓nn_100, ↓nn_101, ↓nn_102, ↓nn_103, ↓nn_104, ↓nn_105, ↓nn_106, ↓nn_107, ↓nn_108, p_bs, p_rq0, p_rq1, p_rz0, p_rz1, p_us, p_un, p_uj, ↓reduceIte, t_nxS, hb1', g11', hh1', t_b0]
          cases hh' : had' k'
          · left
            simp only [hh', Bool.false_eq_true, ↓reduceIte] at j6'
            have hcn' := t_cnF had' K'.2.1 k' p2' hh'
            have hcu' := t_cnU had' K'.2.1 k' p2' hh'
            obtain ⟨m1', m2', m3'⟩ := k1' k' p2' (q_u2 J' 87 10 (Int32.ofNat (e1' + 1)), X')
            have q1' : t_QE J' (e1' + 1) (q_u2 J' 87 10 (Int32.ofNat (e1' + 1))) := t_QEu (t_QEs j1'.2.2.1)
            have c2' := t_MIq j1' (by omega) q1'
            have hR2' := t_RTi hR' c2' (by omega)
            have h5' := k4' k'
            have hnum := s_number hB' hR2' q1'.2.2 (by omega) (by rw [q1'.2.1 11 (by decide)]; exact g11') (K'.2.2.1 k') (K'.2.2.2.1 k') h5'.1 h5'.2
            have hNB' := t_nmB (β := β) (n' := n') (d' := 2) (lo' := K'.2.2.1 k') (hi' := K'.2.2.2.1 k') (e' := e1' + 1) (by omega)
            have key' : ∃ t', J_X12_readItems_117_45 87 kd' rc' (Int32.ofNat from') a' (t_B (fun j' => had' j' || j' == k')) (Int32.ofNat k') rc' (Int32.ofNat (from' + k')) 87 (Int32.ofNat (K'.2.2.1 k')) (q_u2 J' 87 10 (Int32.ofNat (e1' + 1)), X') = some (.inl t') ∧ i' < K'.2.1 + 1 ∧ ((∃ J' e1' had' row', t' = (t_B had', t_nx (t_pa β n' K'.1 K'.2.1 e1'), (J', X')) ∧ t_MI I' rc' from' K'.2.1 e1' row' J' ∧ e1' ≤ n' ∧ t_sk β n' e1' = e1' ∧ t_cn had' K'.2.1 = i' + 1 ∧ i' + 1 ≤ K'.2.1 ∧ t_it β n' K'.1 K'.2.1 K'.2.2.1 K'.2.2.2.1 (K'.2.1 + 1 - (i' + 1)) e1' had' row' = t_itK β n' K' e') ∨ (∃ J' x' u' v', t' = (u', v', (J', X')) ∧ t_itK β n' K' e' = .inl x' ∧ t_MX I' rc' x' J' ∧ x' ≤ n')) := by
              unfold J_X12_readItems_117_45
              rw [m2']
              simp only [p_bs, p_ob (sh_87 hB')]
              rcases hnum with ⟨x', v', J2', d1', d2', d3'⟩ | ⟨x', v', J2', d1', d2', d3'⟩
              · rw [d1'] at j6'
                have hx' := hNB'.1 x' d1'
                have x1' := t_MIx c2' d3'
                have f11' : q_u2 J2' rc' (from' + k') v' 87 11 = Int32.ofNat x' := by rw [p_un _ _ _ _ _ _ (by omega)]; exact d3'.2.2
                have fne' : ¬ q_u2 J2' rc' (from' + k') v' 87 11 = -1 := by rw [f11']; exact p_of1 x' (by have := hR'.2.2.2.2.1; omega)
                rw [d2']
                simp (disch := omega) only [p_bs, p_tI hrc' (by omega) h36', p_gI (sh_87 hB'), fne', ↓reduceIte]
                refine ⟨_, rfl, by omega, .inr ⟨_, x', _, _, rfl, j6'.symm, ⟨?_, ?_, f11'⟩, hx'.1⟩⟩
                · intro c' h3' h4'; rw [p_uc _ _ _ _ _ h4']; exact x1'.1 c' h3' h4'
                · intro j' h3' h4'; rw [p_un _ _ _ _ _ _ (by omega)]; exact x1'.2.1 j' h3' h4'
              · rw [d1'] at j6'
                have hx' := hNB'.2 x' v' d1'
                have c3' := t_MIq c2' (by omega) d3'
                have c4' : t_MI I' rc' from' K'.2.1 x' (fun j' => if j' = k' then v' else row' j') (q_u2 J2' rc' (from' + k') (Int32.ofNat v')) := by
                  refine ⟨?_, ?_, ?_, ?_, ?_⟩
                  · intro c' h3' h4'; rw [p_uc _ _ _ _ _ h4']; exact c3'.1 c' h3' h4'
                  · intro j' h3'; rw [p_un _ _ _ _ _ _ (by omega)]; exact c3'.2.1 j' h3'
                  · rw [p_un _ _ _ _ _ _ (by omega)]; exact c3'.2.2.1
                  · intro k'' hk''
                    show _ = Int32.ofNat (if k'' = k' then v' else row' k'')
                    by_cases ek' : k'' = k'
                    · subst ek'; rw [p_us, if_pos rfl]
                    · rw [p_uj _ _ _ _ _ (by omega), if_neg ek']; exact c3'.2.2.2.1 k'' hk''
                  · intro j' hj'; rw [p_uj _ _ _ _ _ (by omega)]; exact c3'.2.2.2.2 j' hj'
                have f11' : q_u2 J2' rc' (from' + k') (Int32.ofNat v') 87 11 = -1 := by rw [c4'.2.1 11 (by decide)]; exact h11'
                have hR4' := t_RTi hR' c4' (by omega)
                obtain ⟨J3', b3', b4'⟩ := s_look hB' hR4' c4'.2.2.1 hx'.1
                have c5' := t_MIq c4' (by omega) b4'
                have hsp' := s_spotOf (e' := t_sk β n' x') (hSk' J3' c5'.1) hβ
                rw [d2']
                simp (disch := omega) only [p_bs, p_tI hrc' (by omega) h36', p_gI (sh_87 hB'), f11', ↓reduceIte, p_ob (sh_87 hB'), b3', hsp']
                refine ⟨_, rfl, by omega, .inl ⟨J3', t_sk β n' x', _, _, rfl, c5', t_skU β n' x' hx'.1, t_skk β n' x', by rw [hcu', j4'], by omega, ?_⟩⟩
                simp only at j6'
                rw [← j6']
                cases hf' : K'.2.1 + 1 - (i' + 1) with
                | zero => omega
                | succ f' => rw [t_it, t_it, t_skk]
            have h103 : (if kd' = 103 then (if Int32.ofNat k' = 1 then (1 : Int32) else 0) else 0) = Int32.ofNat (K'.2.2.1 k') := m3'
            simp (disch := omega) only [↓ce_87 hB', rf_87 hB', ↓nn_31, ↓nn_33, ↓nn_89, ↓nn_90, ↓nn_91, ↓nn_92, ↓nn_93, ↓nn_94, ↓nn_95, ↓nn_96, ↓nn_97, ↓nn_98, ↓nn_99, ↓nn_100, ↓nn_101, ↓nn_102, ↓nn_103, ↓nn_104, ↓nn_105, ↓nn_106, ↓nn_107, ↓nn_108, p_bs, p_rq0, p_rq1, p_rz0, p_rz1, p_us, p_un, p_uj, ↓reduceIte, j1'.2.2.1, p_ar, t_BO]
            unfold J_X12_readItems_116_45
            by_cases hkd' : kd' = 103
            · rw [if_pos hkd'] at h103 ⊢
              by_cases hk1' : Int32.ofNat k' = 1
              · rw [if_pos hk1'] at h103 ⊢
                rw [h103]; exact key'
              · rw [if_neg hk1'] at h103 ⊢
                rw [h103]; exact key'
            · rw [if_neg hkd'] at h103 ⊢
              rw [h103]; exact key'
          · right
            simp only [hh', ↓reduceIte] at j6'
            simp only [Bool.true_eq_false, ↓reduceIte]
            exact ⟨_, rfl, .inl ⟨e1', J', row', j6'.symm, rfl, j1', j2'⟩⟩
      · right
        have fne' : ¬ J' 87 11 = -1 := by rw [j2'.2.2]; exact p_of1 x' (by have := hR'.2.2.2.2.1; omega)
        unfold B_X12_readItems_45
        by_cases hv' : v' = -1
        · simp only [hv', ↓reduceIte]
          exact ⟨_, rfl, .inr (.inl ⟨x', J', j1', rfl, j2', j3'⟩)⟩
        · simp (disch := omega) only [↓ce_87 hB', rf_87 hB', ↓nn_31, ↓nn_33, ↓nn_89, ↓nn_90, ↓nn_91, ↓nn_92, ↓nn_93, ↓nn_94, ↓nn_95, ↓nn_96, ↓nn_97, ↓nn_98, ↓nn_99, ↓nn_100, ↓nn_101, ↓nn_102, ↓nn_103, ↓nn_104, ↓nn_105, ↓nn_106, ↓nn_107, ↓nn_108, p_bs, p_rq0, p_rq1, p_rz0, p_rz1, p_us, p_un, p_uj, ↓reduceIte, hv', fne']
          exact ⟨_, rfl, .inr (.inl ⟨x', J', j1', rfl, j2', j3'⟩)⟩) (K'.2.1 + 1) 0 q_fu (0, t_nx (t_pa β n' K'.1 K'.2.1 (t_sk β n' e')), (J1', X')) (by omega) (by unfold q_fu; omega) (.inl ⟨J1', t_sk β n' e', (fun _ => false), K'.2.2.2.2, by rw [t_BZ (fun _ _ => rfl)], hC1', hU0', t_skk β n' e', by
        have : ∀ m', t_cn (fun _ => false) m' = 0 := by intro m'; induction m' with | zero => rfl | succ m' ih' => rw [t_cn, ih']; rfl
        exact this _, by omega, by
        unfold t_itK
        rw [Nat.sub_zero, t_it, t_it, t_skk]⟩)
  have hsp' := s_spotOf (e' := t_sk β n' e') (hSk' J1' hC1'.1) hβ
  unfold F_X12_readItems
  simp only [u1', p_bs, p_ob (sh_87 hB'), b1', hsp', h1']
  rcases h2' with ⟨x', J', row', c1', rfl, c3', c4'⟩ | ⟨x', J', c1', rfl, c3', c4'⟩ | ⟨x', row', J', c1', rfl, c3', c4'⟩
  · have g11' : J' 87 11 = -1 := by rw [c3'.2.1 11 (by decide)]; exact h11'
    simp only [s_fails hB' c3'.2.2.1 g11', p_bs, p_ob (sh_87 hB')]
    exact ⟨_, rfl, .inl ⟨x', c1', t_MIx c3' (t_QEx (t_QEs c3'.2.2.1)), c4'⟩⟩
  · exact ⟨J', rfl, .inl ⟨x', c1', c3', c4'⟩⟩
  · exact ⟨J', rfl, .inr ⟨x', row', c1', c3', c4'⟩⟩
end PH'
