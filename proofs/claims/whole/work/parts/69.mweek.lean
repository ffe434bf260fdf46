/-! a WEEK's text, the reference -/
def t_MV (I' : p_I) (e' : Nat) (J' : p_I) : Prop := (∀ c', c' ≠ 87 → c' ≠ 98 → J' c' = I' c') ∧ (∀ j', j' ≠ 10 → J' 87 j' = I' 87 j') ∧ J' 87 10 = Int32.ofNat e' ∧ (∀ j', j' < 192 → J' 98 j' = I' 98 j')
def t_MZ (I' : p_I) (e' : Nat) (J' : p_I) : Prop := (∀ c', c' ≠ 87 → c' ≠ 98 → c' ≠ 99 → J' c' = I' c') ∧ (∀ j', j' ≠ 10 → j' ≠ 11 → J' 87 j' = I' 87 j') ∧ J' 87 11 = Int32.ofNat e' ∧ (∀ j', j' < 192 → J' 98 j' = I' 98 j') ∧ (∀ j', j' ≠ 4 → J' 99 j' = I' 99 j')
theorem t_MVq {I' J' K' : p_I} {e' e'' : Nat} (h' : t_MV I' e' J') (h2' : t_QE J' e'' K') : t_MV I' e'' K' := ⟨fun c' h3' h4' => by rw [h2'.1 c' h3', h'.1 c' h3' h4'], fun j' h3' => by rw [h2'.2.1 j' h3', h'.2.1 j' h3'], h2'.2.2, by rw [h2'.1 98 (by decide)]; exact h'.2.2.2⟩
theorem t_MVx {I' J' K' : p_I} {e' e'' : Nat} (h' : t_MV I' e' J') (h2' : t_QX J' e'' K') : t_MZ I' e'' K' := ⟨fun c' h3' h4' h5' => by rw [h2'.1 c' h3', h'.1 c' h3' h4'], fun j' h3' h4' => by rw [h2'.2.1 j' h3' h4', h'.2.1 j' h3'], h2'.2.2, by rw [h2'.1 98 (by decide)]; exact h'.2.2.2, fun j' _ => by rw [h2'.1 99 (by decide), h'.1 99 (by decide) (by decide)]⟩
theorem t_MVu {I' J' : p_I} {e' j' : Nat} {v' : Int32} (hj' : 192 ≤ j') (h' : t_MV I' e' J') : t_MV I' e' (q_u2 J' 98 j' v') := ⟨fun c' h3' h4' => by rw [p_uc _ _ _ _ _ h4']; exact h'.1 c' h3' h4', fun j' h3' => by rw [p_un _ _ _ _ _ _ (by decide)]; exact h'.2.1 j' h3', by rw [p_un _ _ _ _ _ _ (by decide)]; exact h'.2.2.1, fun j'' h3' => by rw [p_uj _ _ _ _ _ (by omega)]; exact h'.2.2.2 j'' h3'⟩
theorem t_MZu {I' J' : p_I} {e' j' : Nat} {v' : Int32} (hj' : 192 ≤ j') (h' : t_MZ I' e' J') : t_MZ I' e' (q_u2 J' 98 j' v') := ⟨fun c' h3' h4' h5' => by rw [p_uc _ _ _ _ _ h4']; exact h'.1 c' h3' h4' h5', fun j' h3' h4' => by rw [p_un _ _ _ _ _ _ (by decide)]; exact h'.2.1 j' h3' h4', by rw [p_un _ _ _ _ _ _ (by decide)]; exact h'.2.2.1, fun j'' h3' => by rw [p_uj _ _ _ _ _ (by omega)]; exact h'.2.2.2.1 j'' h3', fun j'' h3' => by rw [p_un _ _ _ _ _ _ (by decide)]; exact h'.2.2.2.2 j'' h3'⟩
theorem t_RTv {β : Nat → Nat} {n' tc' bg' e' : Nat} {I' J' : p_I} {X' : p_X} (hR' : t_RT β n' tc' bg' I' X') (h' : t_MV I' e' J') : t_RT β n' tc' bg' J' X' := by
  obtain ⟨a1', a2', a3', a4', a5', a6', a7'⟩ := hR'
  exact ⟨a1', a2', by rw [h'.2.1 8 (by decide)]; exact a3', by rw [h'.2.1 9 (by decide)]; exact a4', a5', by rw [h'.1 tc' (by omega) (by omega)]; exact a6', a7'⟩
section PW'
variable {X' : p_X} {I' J' : p_I} {β : Nat → Nat} {n' e' tc' bg' : Nat}
theorem s_mstep (hB' : p_B X') (hS' : p_S I') (hR' : t_RT β n' tc' bg' I' X') (h11' : I' 87 11 = -1) {i' : Nat} {rows : Nat → Int32} (hC' : t_MV I' e' J') (hrow : ∀ j', j' < 3 * i' → J' 98 (192 + j') = rows j') (he' : e' ≤ n') (hi' : i' < 16) :
    ∃ J'', F_X12_readStep 87 (Int32.ofNat (192 + 3 * i')) (J', X') = some ((), (J'', X')) ∧
    ((∃ x', t_stp β n' e' = .inl x' ∧ t_MZ I' x' J'' ∧ x' ≤ n') ∨
    (∃ x' a' b' c', t_stp β n' e' = .inr (x', a', b', c') ∧ t_MV I' x' J'' ∧ (∀ j', j' < 3 * (i' + 1) → J'' 98 (192 + j') = t_r3 rows i' a' b' c' j') ∧ x' ≤ n')) := by
  have hR1' := t_RTv hR' hC'
  have hβ := hR'.2.2.2.2.2.2
  have hn' := hR'.2.2.2.2.1
  obtain ⟨J1', b1', b2'⟩ := s_look hB' hR1' hC'.2.2.1 he'
  have hU' := t_skU β n' e' he'
  have hV1' := t_MVq hC' b2'
  have g11' : J1' 87 11 = -1 := by rw [hV1'.2.1 11 (by decide)]; exact h11'
  have hF' := s_fails hB' b2'.2.2 g11'
  have hS1' : p_S J1' := fun k' hk' => by rw [hV1'.1 k' (by omega) (by omega)]; exact hS' k' hk'
  have hsp' := s_spotOf (e' := t_sk β n' e') (t_sh28 hB' hS1') hβ
  unfold F_X12_readStep t_stp
  simp (disch := omega) only [↓ce_87 hB', rf_87 hB', ↓nn_31, ↓nn_33, ↓nn_89, ↓nn_90, ↓nn_91, ↓nn_92, ↓nn_93, ↓nn_94, ↓nn_95, ↓nn_96, ↓nn_97, ↓nn_98, ↓nn_99, ↓nn_100, ↓nn_101, ↓nn_102, ↓nn_103, ↓nn_104, ↓nn_105, ↓nn_106, ↓nn_107, ↓nn_108, p_bs, p_rq0, p_rq1, p_rz0, p_rz1, p_us, p_un, p_uj, ↓reduceIte, b1', hsp']
  cases hpa' : t_pa β n' t_t5 5 (t_sk β n' e') with
  | none =>
    simp (disch := omega) only [↓ce_87 hB', rf_87 hB', ↓nn_31, ↓nn_33, ↓nn_89, ↓nn_90, ↓nn_91, ↓nn_92, ↓nn_93, ↓nn_94, ↓nn_95, ↓nn_96, ↓nn_97, ↓nn_98, ↓nn_99, ↓nn_100, ↓nn_101, ↓nn_102, ↓nn_103, ↓nn_104, ↓nn_105, ↓nn_106, ↓nn_107, ↓nn_108, p_bs, p_rq0, p_rq1, p_rz0, p_rz1, p_us, p_un, p_uj, ↓reduceIte, t_nx, hF']
    exact ⟨_, rfl, .inl ⟨_, rfl, t_MVx hV1' (t_QEx (t_QEs b2'.2.2)), hU'⟩⟩
  | some k' =>
    obtain ⟨p1', p2', p3'⟩ := t_paB hpa'
    have q1' := t_QEu (e'' := t_sk β n' e' + 1) b2'
    have hV2' := t_MVq hC' q1'
    simp (disch := omega) only [↓ce_87 hB', rf_87 hB', ↓ce_98 hB', ↓nn_31, ↓nn_33, ↓nn_89, ↓nn_90, ↓nn_91, ↓nn_92, ↓nn_93, ↓nn_94, ↓nn_95, ↓nn_96, ↓nn_97, ↓nn_98, ↓nn_99, ↓nn_100, ↓nn_101, ↓nn_102, ↓nn_103, ↓nn_104, ↓nn_105, ↓nn_106, ↓nn_107, ↓nn_108, p_bs, p_rq0, p_rq1, p_rz0, p_rz1, p_us, p_un, p_uj, ↓reduceIte, t_nxS, p_ofN1, b2'.2.2, p_ar, p_cm]
    generalize hJ4' : q_u2 (q_u2 (q_u2 (q_u2 J1' 87 10 (Int32.ofNat (t_sk β n' e' + 1))) 98 (192 + 3 * i') (Int32.ofNat k')) 98 (192 + 3 * i' + 1) (-1)) 98 (192 + 3 * i' + 2) (-1) = J4'
    have hV4' : t_MV I' (t_sk β n' e' + 1) J4' := by rw [← hJ4']; exact t_MVu (by omega) (t_MVu (by omega) (t_MVu (by omega) hV2'))
    have k11' : J4' 87 11 = -1 := by rw [hV4'.2.1 11 (by decide)]; exact h11'
    have r4' : ∀ j', j' < 3 * (i' + 1) → J4' 98 (192 + j') = t_r3 rows i' (Int32.ofNat k') (-1) (-1) j' := by
      intro j' hj'
      rw [← hJ4']
      unfold t_r3
      by_cases e0' : j' = 3 * i'
      · subst e0'; rw [if_pos rfl]; simp (disch := omega) only [p_uj]; rw [p_us]
      · rw [if_neg e0']
        by_cases e1' : j' = 3 * i' + 1
        · subst e1'; rw [if_pos rfl]; simp (disch := omega) only [p_uj]; rw [show 192 + (3 * i' + 1) = 192 + 3 * i' + 1 by omega, p_us]
        · rw [if_neg e1']
          by_cases e2' : j' = 3 * i' + 2
          · subst e2'; rw [if_pos rfl, show 192 + (3 * i' + 2) = 192 + 3 * i' + 2 by omega, p_us]
          · rw [if_neg e2']
            simp (disch := omega) only [p_uj]
            rw [p_uc _ _ _ _ _ (by omega), b2'.1 _ (by omega)]
            exact hrow j' (by omega)
    have hR4' := t_RTv hR' hV4'
    have plain : k' ≠ 1 → k' ≠ 4 → ∃ J'', (some ((), (J4', X')) : Option (Unit × q_Mem)) = some ((), (J'', X')) ∧ ((∃ x', (Sum.inr (t_sk β n' e' + 1, Int32.ofNat k', (-1 : Int32), (-1 : Int32)) : Nat ⊕ (Nat × Int32 × Int32 × Int32)) = .inl x' ∧ t_MZ I' x' J'' ∧ x' ≤ n') ∨ (∃ x' a' b' c', (Sum.inr (t_sk β n' e' + 1, Int32.ofNat k', (-1 : Int32), (-1 : Int32)) : Nat ⊕ (Nat × Int32 × Int32 × Int32)) = .inr (x', a', b', c') ∧ t_MV I' x' J'' ∧ (∀ j', j' < 3 * (i' + 1) → J'' 98 (192 + j') = t_r3 rows i' a' b' c' j') ∧ x' ≤ n')) :=
      fun _ _ => ⟨J4', rfl, .inr ⟨_, _, _, _, rfl, hV4', r4', by omega⟩⟩
    unfold J_X12_readStep_68
    have hD' := s_mdigit hB' hR4' hV4'.2.2.1 (by omega) k11'
    by_cases hk1' : k' = 1
    · subst hk1'
      simp only [↓reduceIte]
      rcases hD' with ⟨d1', v', J5', d2', d3'⟩ | ⟨d1', J5', d2', d3'⟩
      · have x1' := t_MZu (j' := 192 + 3 * i' + 1) (v' := v') (by omega) (t_MVx hV4' d3')
        have fne' : ¬ J5' 87 11 = -1 := by rw [d3'.2.2]; exact p_of1 _ (by have := t_skU β n' (t_sk β n' e' + 1) (by omega); omega)
        simp (disch := omega) only [↓ce_87 hB', rf_87 hB', ↓ce_98 hB', ↓nn_31, ↓nn_33, ↓nn_89, ↓nn_90, ↓nn_91, ↓nn_92, ↓nn_93, ↓nn_94, ↓nn_95, ↓nn_96, ↓nn_97, ↓nn_98, ↓nn_99, ↓nn_100, ↓nn_101, ↓nn_102, ↓nn_103, ↓nn_104, ↓nn_105, ↓nn_106, ↓nn_107, ↓nn_108, p_bs, p_rq0, p_rq1, p_rz0, p_rz1, p_us, p_un, p_uj, ↓reduceIte, d2', p_ar, fne']
        rw [d1']
        exact ⟨_, rfl, .inl ⟨_, rfl, x1', t_skU β n' _ (by omega)⟩⟩
      · have hl' := (t_dgE d1').1
        have c5' := t_MVq hV4' d3'
        have f11' : q_u2 J5' 98 (192 + 3 * i' + 1) (Int32.ofNat (β (t_sk β n' (t_sk β n' e' + 1)) - 48)) 87 11 = -1 := by rw [p_un _ _ _ _ _ _ (by decide), c5'.2.1 11 (by decide)]; exact h11'
        simp (disch := omega) only [↓ce_87 hB', rf_87 hB', ↓ce_98 hB', ↓nn_31, ↓nn_33, ↓nn_89, ↓nn_90, ↓nn_91, ↓nn_92, ↓nn_93, ↓nn_94, ↓nn_95, ↓nn_96, ↓nn_97, ↓nn_98, ↓nn_99, ↓nn_100, ↓nn_101, ↓nn_102, ↓nn_103, ↓nn_104, ↓nn_105, ↓nn_106, ↓nn_107, ↓nn_108, p_bs, p_rq0, p_rq1, p_rz0, p_rz1, p_us, p_un, p_uj, ↓reduceIte, d2', p_ar, f11', p_cm, show ((1 : Nat) = 4) = False from by decide]
        rw [d1']
        refine ⟨_, rfl, .inr ⟨_, _, _, _, rfl, t_MVu (by omega) c5', ?_, by omega⟩⟩
        intro j' hj'
        have hr' := r4' j' hj'
        unfold t_r3 at hr' ⊢
        by_cases e1' : j' = 3 * i' + 1
        · subst e1'; rw [show 192 + (3 * i' + 1) = 192 + 3 * i' + 1 by omega, p_us, if_neg (by omega), if_pos rfl]
        · rw [p_uj _ _ _ _ _ (by omega), d3'.1 98 (by decide), hr', if_neg e1', if_neg e1']
    · by_cases hk4' : k' = 4
      · subst hk4'
        simp only [show ((4 : Nat) = 1) = False from by decide, ↓reduceIte]
        rcases hD' with ⟨d1', v', J5', d2', d3'⟩ | ⟨d1', J5', d2', d3'⟩
        · have x1' := t_MZu (j' := 192 + 3 * i' + 1) (v' := v') (by omega) (t_MVx hV4' d3')
          have fne' : ¬ J5' 87 11 = -1 := by rw [d3'.2.2]; exact p_of1 _ (by have := t_skU β n' (t_sk β n' e' + 1) (by omega); omega)
          simp (disch := omega) only [↓ce_87 hB', rf_87 hB', ↓ce_98 hB', ↓nn_31, ↓nn_33, ↓nn_89, ↓nn_90, ↓nn_91, ↓nn_92, ↓nn_93, ↓nn_94, ↓nn_95, ↓nn_96, ↓nn_97, ↓nn_98, ↓nn_99, ↓nn_100, ↓nn_101, ↓nn_102, ↓nn_103, ↓nn_104, ↓nn_105, ↓nn_106, ↓nn_107, ↓nn_108, p_bs, p_rq0, p_rq1, p_rz0, p_rz1, p_us, p_un, p_uj, ↓reduceIte, d2', p_ar, fne']
          rw [d1']
          exact ⟨_, rfl, .inl ⟨_, rfl, x1', t_skU β n' _ (by omega)⟩⟩
        · have hl' := (t_dgE d1').1
          have c5' := t_MVq hV4' d3'
          have c6' := t_MVu (j' := 192 + 3 * i' + 1) (v' := Int32.ofNat (β (t_sk β n' (t_sk β n' e' + 1)) - 48)) (by omega) c5'
          have f11' : q_u2 J5' 98 (192 + 3 * i' + 1) (Int32.ofNat (β (t_sk β n' (t_sk β n' e' + 1)) - 48)) 87 11 = -1 := by rw [c6'.2.1 11 (by decide)]; exact h11'
          have hD2' := s_mdigit hB' (t_RTv hR' c6') c6'.2.2.1 (by omega) f11'
          simp (disch := omega) only [↓ce_87 hB', rf_87 hB', ↓ce_98 hB', ↓nn_31, ↓nn_33, ↓nn_89, ↓nn_90, ↓nn_91, ↓nn_92, ↓nn_93, ↓nn_94, ↓nn_95, ↓nn_96, ↓nn_97, ↓nn_98, ↓nn_99, ↓nn_100, ↓nn_101, ↓nn_102, ↓nn_103, ↓nn_104, ↓nn_105, ↓nn_106, ↓nn_107, ↓nn_108, p_bs, p_rq0, p_rq1, p_rz0, p_rz1, p_us, p_un, p_uj, ↓reduceIte, d2', p_ar, f11', p_cm]
          rw [d1']
          rcases hD2' with ⟨g1', v', J7', g2', g3'⟩ | ⟨g1', J7', g2', g3'⟩
          · simp (disch := omega) only [↓ce_87 hB', rf_87 hB', ↓ce_98 hB', ↓nn_31, ↓nn_33, ↓nn_89, ↓nn_90, ↓nn_91, ↓nn_92, ↓nn_93, ↓nn_94, ↓nn_95, ↓nn_96, ↓nn_97, ↓nn_98, ↓nn_99, ↓nn_100, ↓nn_101, ↓nn_102, ↓nn_103, ↓nn_104, ↓nn_105, ↓nn_106, ↓nn_107, ↓nn_108, p_bs, p_rq0, p_rq1, p_rz0, p_rz1, p_us, p_un, p_uj, ↓reduceIte, g2', p_ar]
            rw [g1']
            exact ⟨_, rfl, .inl ⟨_, rfl, t_MZu (by omega) (t_MVx c6' g3'), t_skU β n' _ (by omega)⟩⟩
          · have hl2' := (t_dgE g1').1
            simp (disch := omega) only [↓ce_87 hB', rf_87 hB', ↓ce_98 hB', ↓nn_31, ↓nn_33, ↓nn_89, ↓nn_90, ↓nn_91, ↓nn_92, ↓nn_93, ↓nn_94, ↓nn_95, ↓nn_96, ↓nn_97, ↓nn_98, ↓nn_99, ↓nn_100, ↓nn_101, ↓nn_102, ↓nn_103, ↓nn_104, ↓nn_105, ↓nn_106, ↓nn_107, ↓nn_108, p_bs, p_rq0, p_rq1, p_rz0, p_rz1, p_us, p_un, p_uj, ↓reduceIte, g2', p_ar]
            rw [g1']
            refine ⟨_, rfl, .inr ⟨_, _, _, _, rfl, t_MVu (by omega) (t_MVq c6' g3'), ?_, by omega⟩⟩
            intro j' hj'
            have hr' := r4' j' hj'
            unfold t_r3 at hr' ⊢
            by_cases e2' : j' = 3 * i' + 2
            · subst e2'; rw [show 192 + (3 * i' + 2) = 192 + 3 * i' + 2 by omega, p_us, if_neg (by omega), if_neg (by omega), if_pos rfl]
            · rw [p_uj _ _ _ _ _ (by omega), g3'.1 98 (by decide)]
              by_cases e1' : j' = 3 * i' + 1
              · subst e1'; rw [show 192 + (3 * i' + 1) = 192 + 3 * i' + 1 by omega, p_us, if_neg (by omega), if_pos rfl]
              · rw [p_uj _ _ _ _ _ (by omega), d3'.1 98 (by decide), hr', if_neg e1', if_neg e1', if_neg e2', if_neg e2']
      · simp only [hk1', hk4', ↓reduceIte]
        exact plain hk1' hk4'
theorem p_64 (b' : Nat) : (64 : Int32) + Int32.ofNat b' = Int32.ofNat (64 + b') := (Int32.ofNat_add 64 b').symm
theorem s_readWeek (hB' : p_B X') (hS' : p_S I') (h6' : I' 87 6 = Int32.ofNat n') (hn' : n' ≤ 240) (hb' : ∀ i', i' < n' → I' 88 i' = t_by (β i')) (hβ : ∀ i', i' < n' → β i' < 256) :
    ∃ J', F_X12_readWeek 87 (I', X') = some ((), (J', p_T X' 89)) ∧ ((∃ x', t_wk β n' 16 0 0 (fun _ => 0) = .inl x' ∧ t_MZ (t_Ib I' 0 (I' 87 6)) x' J' ∧ x' ≤ n') ∨ (∃ i' rows, t_wk β n' 16 0 0 (fun _ => 0) = .inr (i', rows) ∧ (∀ c', c' ≠ 87 → c' ≠ 98 → c' ≠ 99 → J' c' = t_Ib I' 0 (I' 87 6) c') ∧ (∀ j', j' ≠ 10 → J' 87 j' = t_Ib I' 0 (I' 87 6) 87 j') ∧ (∀ j', j' < 192 → J' 98 j' = I' 98 j') ∧ (∀ j', j' ≠ 4 → J' 99 j' = I' 99 j') ∧ J' 99 4 = Int32.ofNat i' ∧ (∀ j', j' < 3 * i' → J' 98 (192 + j') = rows j') ∧ i' ≤ 16)) := by
  have hR' := t_RT0 (X' := X') h6' hn' hb' hβ
  have hst' := s_starts (I' := I') hB' 88 0 (I' 87 6)
  unfold F_X12_readWeek
  simp (disch := omega) only [↓ce_87 hB', rf_87 hB', ↓nn_31, ↓nn_33, ↓nn_89, ↓nn_90, ↓nn_91, ↓nn_92, ↓nn_93, ↓nn_94, ↓nn_95, ↓nn_96, ↓nn_97, ↓nn_98, ↓nn_99, ↓nn_100, ↓nn_101, ↓nn_102, ↓nn_103, ↓nn_104, ↓nn_105, ↓nn_106, ↓nn_107, ↓nn_108, p_bs, p_rq0, p_rq1, p_rz0, p_rz1, p_us, p_un, p_uj, ↓reduceIte, hst']
  obtain ⟨f1', f2', f3', f4', f5', f6'⟩ := t_IbF I' 0 (I' 87 6)
  have f98' := f1' 98 (by decide)
  have f99' := f1' 99 (by decide)
  generalize t_Ib I' 0 (I' 87 6) = Ib' at *
  have hB' := p_BT hB' 89
  rw [show (88 + 1 : Nat) = 89 from rfl]
  generalize p_T X' 89 = X1' at *
  have hS'' : p_S Ib' := fun k' hk' => by rw [f1' k' (by omega)]; exact hS' k' hk'
  obtain ⟨z', h1', h2'⟩ := p_lp (fun z' => B_X12_readWeek_17 87 z'.1 z'.2.1 z'.2.2)
    (fun i' z' => (∃ J' e1' rows, z' = (Int32.ofNat i', 1, (J', X1')) ∧ t_MV Ib' e1' J' ∧ (∀ j', j' < 3 * i' → J' 98 (192 + j') = rows j') ∧ e1' ≤ n' ∧ i' < 16 ∧ t_wk β n' (16 - i') e1' i' rows = t_wk β n' 16 0 0 (fun _ => 0)) ∨
      (∃ J' x' i'' rows, z' = (Int32.ofNat i'', 0, (J', X1')) ∧ t_MV Ib' x' J' ∧ t_sk β n' x' = x' ∧ x' ≤ n' ∧ i'' ≤ 16 ∧ (∀ j', j' < 3 * i'' → J' 98 (192 + j') = rows j') ∧ t_wk β n' 16 0 0 (fun _ => 0) = (if x' < n' then .inl x' else .inr (i'', rows))))
    (fun z' => (∃ J' x', z' = .inl (J', X1') ∧ t_wk β n' 16 0 0 (fun _ => 0) = .inl x' ∧ t_MZ Ib' x' J' ∧ x' ≤ n') ∨ (∃ J' x', z' = .inr (.inl (J', X1')) ∧ t_wk β n' 16 0 0 (fun _ => 0) = .inl x' ∧ t_MV Ib' x' J' ∧ x' ≤ n') ∨
      (∃ J' x' i'' rows, z' = .inr (.inr (Int32.ofNat i'', (J', X1'))) ∧ t_MV Ib' x' J' ∧ t_sk β n' x' = x' ∧ x' ≤ n' ∧ i'' ≤ 16 ∧ (∀ j', j' < 3 * i'' → J' 98 (192 + j') = rows j') ∧ t_wk β n' 16 0 0 (fun _ => 0) = (if x' < n' then .inl x' else .inr (i'', rows)))) 16 (by
      rintro i' z' hi' (⟨J', e1', rows, rfl, j1', j2', j3', j4', j5'⟩ | ⟨J', x', i'', rows, rfl, j1', j2', j3', j4', j5', j6'⟩)
      · rw [show 16 - i' = (16 - (i' + 1)) + 1 by omega, t_wk] at j5'
        obtain ⟨J1', d1', d2'⟩ := s_mstep hB' hS'' hR' f6' j1' j2' j3' j4'
        rw [show 192 + 3 * i' = 3 * (64 + i') by omega] at d1'
        unfold B_X12_readWeek_17 J_X12_readWeek_57_17 J_X12_readWeek_74_17
        simp (disch := omega) only [↓ce_87 hB', rf_87 hB', ↓nn_31, ↓nn_33, ↓nn_89, ↓nn_90, ↓nn_91, ↓nn_92, ↓nn_93, ↓nn_94, ↓nn_95, ↓nn_96, ↓nn_97, ↓nn_98, ↓nn_99, ↓nn_100, ↓nn_101, ↓nn_102, ↓nn_103, ↓nn_104, ↓nn_105, ↓nn_106, ↓nn_107, ↓nn_108, p_bs, p_rq0, p_rq1, p_rz0, p_rz1, p_us, p_un, p_uj, ↓reduceIte, show ((1 : Int32) = 0) = False from by decide, p_64, p_ar, d1']
        rcases d2' with ⟨x', e1'', e2', e3'⟩ | ⟨x', a', b', c', e1'', e2', e3', e4'⟩
        · right
          rw [e1''] at j5'
          have fne' : ¬ J1' 87 11 = -1 := by rw [e2'.2.2.1]; exact p_of1 x' (by omega)
          simp only [fne', ↓reduceIte]
          exact ⟨_, rfl, .inl ⟨J1', x', rfl, j5'.symm, e2', e3'⟩⟩
        · rw [e1''] at j5'
          simp only at j5'
          have g11'' : J1' 87 11 = -1 := by rw [e2'.2.1 11 (by decide)]; exact f6'
          obtain ⟨J2', b1', b2'⟩ := s_look hB' (t_RTv hR' e2') e2'.2.2.1 e4'
          have c1' := t_MVq e2' b2'
          have hU' := t_skU β n' x' e4'
          have r2' : ∀ j', j' < 3 * (i' + 1) → J2' 98 (192 + j') = t_r3 rows i' a' b' c' j' := by rw [b2'.1 98 (by decide)]; exact e3'
          rw [show (59 : Int32) = Int32.ofNat 59 from rfl]
          simp (disch := omega) only [↓ce_87 hB', rf_87 hB', ↓nn_31, ↓nn_33, ↓nn_89, ↓nn_90, ↓nn_91, ↓nn_92, ↓nn_93, ↓nn_94, ↓nn_95, ↓nn_96, ↓nn_97, ↓nn_98, ↓nn_99, ↓nn_100, ↓nn_101, ↓nn_102, ↓nn_103, ↓nn_104, ↓nn_105, ↓nn_106, ↓nn_107, ↓nn_108, p_bs, p_rq0, p_rq1, p_rz0, p_rz1, p_us, p_un, p_uj, ↓reduceIte, g11'', b1', t_sgE2 hβ _ _ (show (59 : Nat) < 256 by decide), b2'.2.2, p_ar, p_cm]
          by_cases hx' : t_sk β n' x' < n' ∧ β (t_sk β n' x') = 59
          · rw [if_pos hx'.1] at j5'
            simp only [hx', and_self, ↓reduceIte]
            by_cases h16' : i' + 1 = 16
            · right
              rw [if_pos h16'] at j5'
              simp only [h16', ↓reduceIte]
              exact ⟨_, rfl, .inr (.inl ⟨J2', _, rfl, j5'.symm, c1', hU'⟩)⟩
            · left
              rw [if_neg h16', if_pos hx'.2] at j5'
              simp only [h16', ↓reduceIte]
              refine ⟨_, rfl, by omega, .inl ⟨_, _, _, rfl, t_MVq e2' (t_QEu b2'), ?_, by omega, by omega, j5'⟩⟩
              intro j' hj'; rw [p_un _ _ _ _ _ _ (by decide)]; exact r2' j' hj'
          · left
            simp only [hx', ↓reduceIte]
            refine ⟨_, rfl, by omega, .inr ⟨J2', t_sk β n' x', i' + 1, _, rfl, c1', t_skk β n' x', hU', by omega, r2', ?_⟩⟩
            rw [← j5']
            by_cases hy' : t_sk β n' x' < n'
            · rw [if_pos hy', if_pos hy']
              by_cases h16' : i' + 1 = 16
              · rw [if_pos h16']
              · rw [if_neg h16', if_neg (fun q' => hx' ⟨hy', q'⟩)]
            · rw [if_neg hy', if_neg hy']
      · right
        unfold B_X12_readWeek_17
        simp only [↓reduceIte]
        exact ⟨_, rfl, .inr (.inr ⟨J', x', i'', rows, rfl, j1', j2', j3', j4', j5', j6'⟩)⟩) 16 0 q_fu (0, 1, (Ib', X1')) (by omega) (by unfold q_fu; omega) (.inl ⟨Ib', 0, (fun _ => 0), rfl, ⟨fun _ _ _ => rfl, fun _ _ => rfl, f5', fun _ _ => rfl⟩, fun j' hj' => absurd hj' (by omega), by omega, by omega, rfl⟩)
  rw [h1']
  simp only [p_bs]
  rcases h2' with ⟨J', x', rfl, c1', c2', c3'⟩ | ⟨J', x', rfl, c1', c2', c3'⟩ | ⟨J', x', i', rows, rfl, c1', c2', c3', c4', c5', c6'⟩
  · exact ⟨J', rfl, .inl ⟨x', c1', c2', c3'⟩⟩
  · have g11' : J' 87 11 = -1 := by rw [c2'.2.1 11 (by decide)]; exact f6'
    simp (disch := omega) only [↓ce_87 hB', rf_87 hB', ↓nn_31, ↓nn_33, ↓nn_89, ↓nn_90, ↓nn_91, ↓nn_92, ↓nn_93, ↓nn_94, ↓nn_95, ↓nn_96, ↓nn_97, ↓nn_98, ↓nn_99, ↓nn_100, ↓nn_101, ↓nn_102, ↓nn_103, ↓nn_104, ↓nn_105, ↓nn_106, ↓nn_107, ↓nn_108, p_bs, p_rq0, p_rq1, p_rz0, p_rz1, p_us, p_un, p_uj, ↓reduceIte, s_fails hB' c2'.2.2.1 g11']
    exact ⟨_, rfl, .inl ⟨x', c1', t_MVx c2' (t_QEx (t_QEs c2'.2.2.1)), c3'⟩⟩
  · have c1'' : t_MV Ib' x' J' := c1'
    have hR2' : t_RT β n' 88 0 (q_u2 J' 99 4 (Int32.ofNat i')) X1' := by
      obtain ⟨a1', a2', a3', a4', a5', a6', a7'⟩ := t_RTv hR' c1'
      exact ⟨a1', a2', by rw [p_un _ _ _ _ _ _ (by decide)]; exact a3', by rw [p_un _ _ _ _ _ _ (by decide)]; exact a4', a5', by rw [p_uc _ _ _ _ _ (by decide)]; exact a6', a7'⟩
    obtain ⟨J2', b1', b2'⟩ := s_look (e' := x') hB' hR2' (by rw [p_un _ _ _ _ _ _ (by decide)]; exact c1'.2.2.1) c3'
    rw [c2'] at b1' b2'
    have k11' : J2' 87 11 = -1 := by rw [b2'.2.1 11 (by decide), p_un _ _ _ _ _ _ (by decide), c1'.2.1 11 (by decide)]; exact f6'
    have hF' := s_fails hB' b2'.2.2 k11'
    have fr' : ∀ c', c' ≠ 87 → c' ≠ 98 → c' ≠ 99 → J2' c' = Ib' c' := fun c' h3' h4' h5' => by rw [b2'.1 c' h3', p_uc _ _ _ _ _ h5']; exact c1'.1 c' h3' h4'
    have fr98' : ∀ j', j' < 192 → J2' 98 j' = I' 98 j' := fun j' hj' => by rw [b2'.1 98 (by decide), p_uc _ _ _ _ _ (by decide), c1'.2.2.2 j' hj', f98']
    have fr99' : ∀ j', j' ≠ 4 → J2' 99 j' = I' 99 j' := fun j' hj' => by rw [b2'.1 99 (by decide), p_uj _ _ _ _ _ hj', c1'.1 99 (by decide) (by decide), f99']
    simp (disch := omega) only [↓ce_87 hB', rf_87 hB', ↓ce_99 hB', ↓nn_31, ↓nn_33, ↓nn_89, ↓nn_90, ↓nn_91, ↓nn_92, ↓nn_93, ↓nn_94, ↓nn_95, ↓nn_96, ↓nn_97, ↓nn_98, ↓nn_99, ↓nn_100, ↓nn_101, ↓nn_102, ↓nn_103, ↓nn_104, ↓nn_105, ↓nn_106, ↓nn_107, ↓nn_108, p_bs, p_rq0, p_rq1, p_rz0, p_rz1, p_us, p_un, p_uj, ↓reduceIte, b1', t_sgN2 hβ, hF']
    rw [c6']
    by_cases hx' : x' < n'
    · simp only [hx', not_true_eq_false, ↓reduceIte]
      refine ⟨_, rfl, .inl ⟨x', rfl, ⟨?_, ?_, p_us _ _ _ _, ?_, ?_⟩, c3'⟩⟩
      · intro c' h3' h4' h5'; rw [p_uc _ _ _ _ _ h3']; exact fr' c' h3' h4' h5'
      · intro j' h3' h4'; rw [p_uj _ _ _ _ _ h4', b2'.2.1 j' h3', p_un _ _ _ _ _ _ (by decide)]; exact c1'.2.1 j' h3'
      · intro j' hj'; rw [p_un _ _ _ _ _ _ (by decide), fr98' j' hj', f98']
      · intro j' hj'; rw [p_un _ _ _ _ _ _ (by decide), fr99' j' hj', f99']
    · simp only [hx', not_false_eq_true, ↓reduceIte]
      refine ⟨_, rfl, .inr ⟨i', rows, rfl, fr', ?_, fr98', fr99', ?_, ?_, c4'⟩⟩
      · intro j' h3'; rw [b2'.2.1 j' h3', p_un _ _ _ _ _ _ (by decide)]; exact c1'.2.1 j' h3'
      · rw [b2'.1 99 (by decide), p_us]
      · intro j' hj'; rw [b2'.1 98 (by decide), p_un _ _ _ _ _ _ (by decide)]; exact c5' j' hj'
end PW'
