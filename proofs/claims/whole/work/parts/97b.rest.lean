/-! all games of two guests -/
theorem t_dv4 : ∀ p' : Fin 32, Int32.ofNat p'.1 / 4 = Int32.ofNat (p'.1 / 4) ∧ Int32.ofNat p'.1 - Int32.ofNat p'.1 / 4 * 4 = Int32.ofNat (p'.1 % 4) ∧ Int32.ofNat p'.1 / 8 = Int32.ofNat (p'.1 / 8) ∧ Int32.ofNat p'.1 / 2 = Int32.ofNat (p'.1 / 2) ∧ Int32.ofNat p'.1 - Int32.ofNat p'.1 / 2 * 2 = Int32.ofNat (p'.1 % 2) := by decide +kernel
section PG'
variable {X' : p_X} {I' : p_I} {H' : t_H} {L' : t_L} {s' : Nat → Int32}
theorem s_playAll (hB' : p_B X') (hH' : t_HI H' I') (hW' : t_HW H') (hL' : t_LC L' X' I') (hS' : t_WF H' (I' 54)) (h99' : ∀ g', g' < 6 → ∃ n', I' 54 (13 + g') = Int32.ofNat n' ∧ n' ≤ 99) {D' : Nat} (hD' : I' 54 0 = Int32.ofNat D') (hD'' : D' ≤ 999) {a' b' : Nat} (ha' : a' < 6) (hb' : b' < 6) (hab' : a' ≠ b') : ∃ (J' : p_I) (S' : Nat → Nat → Int32), F_X2_playAll 67 53 (Int32.ofNat a') (Int32.ofNat b') (I', X') = some ((), (J', X')) ∧ (∀ c', c' ≠ 63 → c' ≠ 64 → c' ≠ 65 → c' ≠ p_sc X' → c' ≠ 67 → c' ≠ 69 → c' ≠ 71 → c' ≠ 72 → J' c' = I' c') ∧ (∀ p', p' < 16 → (∀ j', j' < 31 → S' p' j' = I' 54 j') ∧ J' 71 p' = t_gm H' L' (S' p') a' b' (p' / 4) (p' % 4) a' ∧ J' 72 p' = t_gm H' L' (S' p') a' b' (p' / 4) (p' % 4) b') := by
  have hsc' := p_scN hL'
  obtain ⟨z', h1', J', S', rfl, j1'⟩ := p_lp (fun z' => B_X2_playAll_3 67 53 (Int32.ofNat a') (Int32.ofNat b') z'.1 z'.2) (fun i' z' => ∃ (J' : p_I) (S' : Nat → Nat → Int32), z' = (Int32.ofNat i', (J', X')) ∧ (∀ c', c' ≠ 63 → c' ≠ 64 → c' ≠ 65 → c' ≠ p_sc X' → c' ≠ 67 → c' ≠ 69 → c' ≠ 71 → c' ≠ 72 → J' c' = I' c') ∧ (∀ p', p' < i' → (∀ j', j' < 31 → S' p' j' = I' 54 j') ∧ J' 71 p' = t_gm H' L' (S' p') a' b' (p' / 4) (p' % 4) a' ∧ J' 72 p' = t_gm H' L' (S' p') a' b' (p' / 4) (p' % 4) b'))
    (fun z' => ∃ (J' : p_I) (S' : Nat → Nat → Int32), z' = (J', X') ∧ (∀ c', c' ≠ 63 → c' ≠ 64 → c' ≠ 65 → c' ≠ p_sc X' → c' ≠ 67 → c' ≠ 69 → c' ≠ 71 → c' ≠ 72 → J' c' = I' c') ∧ (∀ p', p' < 16 → (∀ j', j' < 31 → S' p' j' = I' 54 j') ∧ J' 71 p' = t_gm H' L' (S' p') a' b' (p' / 4) (p' % 4) a' ∧ J' 72 p' = t_gm H' L' (S' p') a' b' (p' / 4) (p' % 4) b')) 16 (by
      rintro i' z' hi' ⟨J', S', rfl, j1', j2'⟩
      have hl8' : (Int32.ofNat i' < 16) = (i' < 16) := p_lt i' 16 (by omega) (by decide)
      unfold B_X2_playAll_3 q_dvi q_rmi
      by_cases hlt' : i' < 16
      · left
        obtain ⟨d1', d2', -⟩ := t_dv4 ⟨i', by omega⟩
        simp only at d1' d2'
        have e54' : J' 54 = I' 54 := j1' 54 (by decide) (by decide) (by decide) (by omega) (by decide) (by decide) (by decide) (by decide)
        obtain ⟨K', s', b1', b2', b3', b4', b5', b6'⟩ := s_play (I' := J') (L' := L') hB' (t_HIk hH' (fun c' h1' h2' => j1' c' (by omega) (by omega) (by omega) (by omega) (by omega) (by omega) (by omega) (by omega))) hW' (t_LCk hL' (fun c' h1' h2' => j1' c' (by omega) (by omega) (by omega) h2' (by omega) (by omega) (by omega) (by omega))) (by rw [e54']; exact hS') (by rw [e54']; exact h99') (by rw [e54']; exact hD') hD'' ha' hb' hab' (x' := i' / 4) (y' := i' % 4) (by omega) (by omega)
        have l11' : ∀ p' v', q_u2 K' 71 p' v' 67 11 = K' 67 11 := fun p' v' => by rw [p_uc _ _ _ _ _ (by decide)]
        rw [e54'] at b2'
        rw [d1'] at d2'
        simp only [show ((4 : Int32) = 0) = False from by decide, ↓reduceIte, d1', d2']
        simp (disch := omega) only [↓ce_67 hB', rf_67 hB', ↓ce_71 hB', ↓ce_72 hB', ↓nn_40, ↓nn_64, ↓nn_67, ↓nn_69, ↓nn_71, ↓nn_72, ↓nn_73, p_bs, p_rq0, p_rq1, p_rz0, p_rz1, p_us, p_un, p_uj, ↓reduceIte, hl8', hlt', b1', l11', p_ar]
        have e71' : K' 71 = J' 71 := b3' 71 (by decide) (by decide) (by decide) (by omega) (by decide) (by decide)
        have e72' : K' 72 = J' 72 := b3' 72 (by decide) (by decide) (by decide) (by omega) (by decide) (by decide)
        refine ⟨_, rfl, True.intro, _, fun p' => if p' = i' then s' else S' p', rfl, fun c' h1' h2' h3' h4' h5' h6' h7' h8' => ?_, fun p' hp' => ?_⟩
        · rw [p_uc _ _ _ _ _ h8', p_uc _ _ _ _ _ h7', b3' c' h1' h2' h3' h4' h5' h6']; exact j1' c' h1' h2' h3' h4' h5' h6' h7' h8'
        · by_cases e' : p' = i'
          · subst e'
            simp only [↓reduceIte]
            exact ⟨b2', by rw [p_uc _ _ _ _ _ (by decide), p_us]; exact b5', by rw [p_us]; exact b6'⟩
          · simp only [e', ↓reduceIte]
            obtain ⟨q1', q2', q3'⟩ := j2' p' (by omega)
            exact ⟨q1', by rw [p_uc _ _ _ _ _ (by decide), p_uj _ _ _ _ _ e', e71']; exact q2', by rw [p_uj _ _ _ _ _ e', p_uc _ _ _ _ _ (by decide), e72']; exact q3'⟩
      · right
        have hi'' : i' = 16 := by omega
        subst hi''
        simp (disch := omega) only [p_bs, p_rq0, p_rq1, p_rz0, p_rz1, p_us, p_un, p_uj, ↓reduceIte, hl8', Nat.lt_irrefl]
        exact ⟨_, rfl, J', S', rfl, j1', j2'⟩) 16 0 q_fu (0, (I', X')) (by omega) (by unfold q_fu; omega) ⟨I', fun _ => I' 54, rfl, fun _ _ _ _ _ _ _ _ _ => rfl, fun p' hp' => absurd hp' (by omega)⟩
  refine ⟨J', S', ?_, j1'⟩
  unfold F_X2_playAll
  rw [h1']
  rfl
theorem s_restsLp (hB' : p_B X') (hS0' : p_S I') (hM' : t_HM H' I') (hW' : t_HW H') (S' : Nat → Nat → Int32) (hS' : ∀ p', p' < 16 → t_WF H' (S' p') ∧ t_RS (S' p') (I' 100) ∧ (∀ g', g' < 6 → ∃ n', S' p' (13 + g') = Int32.ofNat n' ∧ n' ≤ 99)) (hL' : t_LM L' X' I') {D' : Nat} (hD' : ∀ p', p' < 16 → S' p' 0 = Int32.ofNat D') (hD'' : D' ≤ 999) {a' b' : Nat} (ha' : a' < t_ng H') (hb' : b' < t_ng H') (hab' : a' ≠ b') (l' : Int32) : ∃ J' u', q_lp (fun z' => B_X12_rests_24 87 (Int32.ofNat a') (Int32.ofNat b') l' z'.1 z'.2) q_fu ((0 : Int32), (I', X')) = some (J', p_T X' u') ∧ (∀ c', c' ≠ 87 → c' ≠ 91 → c' ≠ 102 → c' ≠ 101 → c' ≠ 105 → J' c' = I' c') ∧ (∀ j', ¬ t_m87 j' → J' 87 j' = I' 87 j') ∧ (∀ p', p' < 32 → J' 105 p' = t_gm H' L' (S' (p' / 2)) a' b' (p' / 8) (p' / 2 % 4) (if p' % 2 = 0 then a' else b')) := by
  obtain ⟨z', h1', J', u', rfl, j1'⟩ := p_lp (fun z' => B_X12_rests_24 87 (Int32.ofNat a') (Int32.ofNat b') l' z'.1 z'.2) (fun i' z' => ∃ J' u', z' = (Int32.ofNat i', (J', p_T X' u')) ∧ (∀ c', c' ≠ 87 → c' ≠ 91 → c' ≠ 102 → c' ≠ 101 → c' ≠ 105 → J' c' = I' c') ∧ (∀ j', ¬ t_m87 j' → J' 87 j' = I' 87 j') ∧ (∀ p', p' < i' → J' 105 p' = t_gm H' L' (S' (p' / 2)) a' b' (p' / 8) (p' / 2 % 4) (if p' % 2 = 0 then a' else b')))
    (fun z' => ∃ J' u', z' = (J', p_T X' u') ∧ (∀ c', c' ≠ 87 → c' ≠ 91 → c' ≠ 102 → c' ≠ 101 → c' ≠ 105 → J' c' = I' c') ∧ (∀ j', ¬ t_m87 j' → J' 87 j' = I' 87 j') ∧ (∀ p', p' < 32 → J' 105 p' = t_gm H' L' (S' (p' / 2)) a' b' (p' / 8) (p' / 2 % 4) (if p' % 2 = 0 then a' else b'))) 32 (by
      rintro i' z' hi' ⟨J', u', rfl, j1', j2', j3'⟩
      have hB0' := hB'
      have hB' := p_BT hB0' u'
      have hl8' : (Int32.ofNat i' < 32) = (i' < 32) := p_lt i' 32 (by omega) (by decide)
      unfold B_X12_rests_24 q_dvi q_rmi
      by_cases hlt' : i' < 32
      · left
        obtain ⟨-, -, d3', d4', d5'⟩ := t_dv4 ⟨i', hlt'⟩
        obtain ⟨d1', d2', -⟩ := t_dv4 ⟨i' / 2, by omega⟩
        simp only at d1' d2' d3' d4' d5'
        obtain ⟨s1', s2', s3'⟩ := hS' (i' / 2) (by omega)
        have e100 : J' 100 = I' 100 := j1' 100 (by decide) (by decide) (by decide) (by decide) (by decide)
        obtain ⟨K', u'', b1', b2', b3'⟩ := s_gameOf (I' := J') (s' := S' (i' / 2)) (L' := L') hB' (fun c' hc' => by rw [j1' c' (by omega) (by omega) (by omega) (by omega) (by omega)]; exact hS0' c' hc') (t_HMk hM' (j1' 92 (by decide) (by decide) (by decide) (by decide) (by decide)) (j1' 94 (by decide) (by decide) (by decide) (by decide) (by decide)) (j1' 96 (by decide) (by decide) (by decide) (by decide) (by decide)) (j2' 26 (by omega)) (j2' 27 (by omega))) hW' s1' (by rw [e100]; exact s2') s3' (t_LMk (t_LMT hL' u') (j2' 34 (by omega)) (j1' 89 (by decide) (by decide) (by decide) (by decide) (by decide)) (j1' 90 (by decide) (by decide) (by decide) (by decide) (by decide))) (hD' (i' / 2) (by omega)) hD'' ha' hb' hab' (x' := i' / 8) (y' := i' / 2 % 4) (by omega) (by omega) (i' % 2) (by omega)
        rw [p_TT] at b1'
        rw [d1'] at d2'
        rw [d4'] at d5'
        simp only [show ((8 : Int32) = 0) = False from by decide, show ((2 : Int32) = 0) = False from by decide, show ((4 : Int32) = 0) = False from by decide, ↓reduceIte, d3', d4', d1', d2', d5']
        simp (disch := omega) only [↓ce_87 hB', rf_87 hB', ↓nn_31, ↓nn_33, ↓nn_89, ↓nn_90, ↓nn_91, ↓nn_92, ↓nn_93, ↓nn_94, ↓nn_95, ↓nn_96, ↓nn_97, ↓nn_98, ↓nn_99, ↓nn_100, ↓nn_101, ↓nn_102, ↓nn_103, ↓nn_104, ↓nn_105, ↓nn_106, ↓nn_107, ↓nn_108, p_bs, p_rq0, p_rq1, p_rz0, p_rz1, p_us, p_un, p_uj, ↓reduceIte, hl8', hlt', b1']
        have hB' := p_BT hB0' u''
        simp (disch := omega) only [↓ce_87 hB', rf_87 hB', ↓ce_105 hB', ↓nn_31, ↓nn_33, ↓nn_89, ↓nn_90, ↓nn_91, ↓nn_92, ↓nn_93, ↓nn_94, ↓nn_95, ↓nn_96, ↓nn_97, ↓nn_98, ↓nn_99, ↓nn_100, ↓nn_101, ↓nn_102, ↓nn_103, ↓nn_104, ↓nn_105, ↓nn_106, ↓nn_107, ↓nn_108, p_bs, p_rq0, p_rq1, p_rz0, p_rz1, p_us, p_un, p_uj, ↓reduceIte, p_ar]
        have e105 : K' 105 = J' 105 := b2' 105 (by decide) (by decide) (by decide) (by decide)
        refine ⟨_, rfl, True.intro, _, u'', rfl, fun c' h1' h2' h3' h4' h5' => ?_, fun j' hj' => ?_, fun p' hp' => ?_⟩
        · rw [p_uc _ _ _ _ _ h5', b2' c' h1' h2' h3' h4']; exact j1' c' h1' h2' h3' h4' h5'
        · rw [p_uc _ _ _ _ _ (by decide), b3' j' hj']; exact j2' j' hj'
        · by_cases e' : p' = i'
          · subst e'; rw [p_us]
          · rw [p_uj _ _ _ _ _ e', e105]; exact j3' p' (by omega)
      · right
        have hi'' : i' = 32 := by omega
        subst hi''
        simp (disch := omega) only [p_bs, p_rq0, p_rq1, p_rz0, p_rz1, p_us, p_un, p_uj, ↓reduceIte, hl8', Nat.lt_irrefl]
        exact ⟨_, rfl, J', u', rfl, j1', j2', j3'⟩) 32 0 q_fu (0, (I', X')) (by omega) (by unfold q_fu; omega) ⟨I', X'.2.1 87 5, by rw [p_Ts]; rfl, fun _ _ _ _ _ _ => rfl, fun _ _ => rfl, fun p' hp' => absurd hp' (by omega)⟩
  exact ⟨J', u', h1', j1'⟩
end PG'
