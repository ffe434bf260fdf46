/-! ACTS: what can be done, what it does -/
def t_can (H' : t_H) (s' : Nat → Int32) (op' : Nat) (a' b' : Int32) : Bool := match op' with
  | 0 => decide (s' 0 < 999)
  | 1 => t_inr a' (t_nd H') && !decide (s' 3 = a')
  | 2 => decide (s' 1 < 3)
  | 3 => decide (0 < s' 1) && !decide (s' 2 < 5)
  | 4 => t_inr a' (t_ng H') && !t_bit (s' 4) a'.toNatClampNeg && !decide (b' < 1) && !decide (9 < b') && !decide (99 < s' (13 + a'.toNatClampNeg) + b')
  | _ => t_inr a' (t_ng H') && t_inr b' 4 && !decide (s' (19 + a'.toNatClampNeg) = b')
noncomputable def t_do (H' : t_H) (L' : t_L) (s' : Nat → Int32) (op' : Nat) (a' b' : Int32) : Nat → Int32 := match op' with
  | 0 => t_ps H' L' s'
  | 1 => va_up s' 3 a'
  | 2 => va_up s' 1 (s' 1 + 1)
  | 3 => va_up (va_up s' 1 (s' 1 - 1)) 2 (s' 2 - 5)
  | 4 => va_up s' (13 + a'.toNatClampNeg) (s' (13 + a'.toNatClampNeg) + b')
  | _ => va_up s' (19 + a'.toNatClampNeg) b'
def t_CR (H' : t_H) (L' : t_L) (I' : p_I) (X' : p_X) (k' op' : Nat) (a' b' : Int32) (J' : p_I) : Prop := (∀ c', c' ≠ 63 → c' ≠ 64 → c' ≠ 65 → c' ≠ p_sc X' → c' ≠ k' + 1 → J' c' = I' c') ∧ (t_can H' (I' (k' + 1)) op' a' b' = true → J' (k' + 1) = t_do H' L' (I' (k' + 1)) op' a' b') ∧ (t_can H' (I' (k' + 1)) op' a' b' = false → J' = I') ∧ (op' = 0 → t_can H' (I' (k' + 1)) op' a' b' = true → t_EV H' (I' (k' + 1)) J')
section PA'
variable {X' : p_X} {I' : p_I} {H' : t_H} {k' : Nat} {L' : t_L}
theorem t_CR0 {op' : Nat} {a' b' : Int32} (h' : t_can H' (I' (k' + 1)) op' a' b' = false) : t_CR H' L' I' X' k' op' a' b' I' := ⟨fun _ _ _ _ _ _ => rfl, (fun h'' => by rw [h'] at h''; cases h''), fun _ => rfl, (fun _ h'' => by rw [h'] at h''; cases h'')⟩
theorem t_CR1 {op' : Nat} {a' b' : Int32} {J' : p_I} (h' : t_can H' (I' (k' + 1)) op' a' b' = true) (h1' : ∀ c', c' ≠ k' + 1 → J' c' = I' c') (h2' : J' (k' + 1) = t_do H' L' (I' (k' + 1)) op' a' b') (ho' : op' ≠ 0) : t_CR H' L' I' X' k' op' a' b' J' := ⟨fun c' _ _ _ _ hc' => h1' c' hc', fun _ => h2', (fun h'' => by rw [h'] at h''; cases h''), fun h'' => absurd h'' ho'⟩
theorem s_carry0 (hB' : p_B X') (hH' : t_HI H' I') (hW' : t_HW H') (hk' : t_SK k') (hS' : t_WF H' (I' (k' + 1))) (hL' : t_LC L' X' I') (a' b' : Int32) : ∃ J', F_X0_carryOut 66 k' 0 a' b' (I', X') = some (t_b (t_can H' (I' (k' + 1)) 0 a' b'), (J', X')) ∧ t_CR H' L' I' X' k' 0 a' b' J' := by
  obtain ⟨J', j1', j2', j3', j4'⟩ := s_pass hB' hH' hW' hk' hS' hL'
  unfold F_X0_carryOut
  by_cases h' : I' (k' + 1) 0 < 999
  · have hc' : t_can H' (I' (k' + 1)) 0 a' b' = true := by simp [t_can, h']
    simp (disch := omega) only [↓ce_66 hB', rf_66 hB', ↓ce_63 hB', rf_63 hB', ↓nn_40, ↓nn_64, ↓nn_65, ↓nn_66, p_bs, p_rq0, p_rq1, p_rz0, p_rz1, p_us, p_un, p_uj, ↓reduceIte, p_st hk' hB', h', j1']
    rw [hc']
    exact ⟨J', rfl, j2', fun _ => j4', (fun h'' => by rw [hc'] at h''; cases h''), fun _ _ => j3'⟩
  · have hc' : t_can H' (I' (k' + 1)) 0 a' b' = false := by simp [t_can, h']
    simp (disch := omega) only [↓ce_66 hB', rf_66 hB', ↓ce_63 hB', rf_63 hB', ↓nn_40, ↓nn_64, ↓nn_65, ↓nn_66, p_bs, p_rq0, p_rq1, p_rz0, p_rz1, p_us, p_un, p_uj, ↓reduceIte, p_st hk' hB', h']
    rw [hc']
    exact ⟨I', rfl, t_CR0 hc'⟩
theorem s_carry1 (hB' : p_B X') (hH' : t_HI H' I') (hk' : t_SK k') (a' b' : Int32) : ∃ J', F_X0_carryOut 66 k' 1 a' b' (I', X') = some (t_b (t_can H' (I' (k' + 1)) 1 a' b'), (J', X')) ∧ t_CR H' L' I' X' k' 1 a' b' J' := by
  have hd' := s_hasDish hB' hH' a'
  unfold F_X0_carryOut F_X0_chooseDish
  cases hr' : t_inr a' (t_nd H')
  · have hc' : t_can H' (I' (k' + 1)) 1 a' b' = false := by simp [t_can, hr']
    simp (disch := omega) only [↓ce_66 hB', rf_66 hB', ↓ce_39 hB', rf_39 hB', ↓nn_40, ↓nn_41, ↓nn_42, ↓nn_43, ↓nn_44, ↓nn_64, p_bs, p_rq0, p_rq1, p_rz0, p_rz1, p_us, p_un, p_uj, ↓reduceIte, p_st hk' hB', hd', hr', t_b0, show ((1 : Int32) = 0) = False from by decide]
    rw [hc']
    exact ⟨I', rfl, t_CR0 hc'⟩
  · by_cases h' : I' (k' + 1) 3 = a'
    · have hc' : t_can H' (I' (k' + 1)) 1 a' b' = false := by simp [t_can, h']
      simp (disch := omega) only [↓ce_66 hB', rf_66 hB', ↓ce_39 hB', rf_39 hB', ↓nn_40, ↓nn_41, ↓nn_42, ↓nn_43, ↓nn_44, ↓nn_64, p_bs, p_rq0, p_rq1, p_rz0, p_rz1, p_us, p_un, p_uj, ↓reduceIte, p_st hk' hB', hd', hr', t_b0, h', Bool.true_eq_false, show ((1 : Int32) = 0) = False from by decide]
      rw [hc']
      exact ⟨I', rfl, t_CR0 hc'⟩
    · have hc' : t_can H' (I' (k' + 1)) 1 a' b' = true := by simp [t_can, h', hr']
      simp (disch := omega) only [↓ce_66 hB', rf_66 hB', ↓ce_39 hB', rf_39 hB', ↓nn_40, ↓nn_41, ↓nn_42, ↓nn_43, ↓nn_44, ↓nn_64, p_bs, p_rq0, p_rq1, p_rz0, p_rz1, p_us, p_un, p_uj, ↓reduceIte, p_st hk' hB', hd', hr', t_b0, h', Bool.true_eq_false, show ((1 : Int32) = 0) = False from by decide]
      rw [hc']
      exact ⟨_, rfl, t_CR1 hc' (fun c' hc' => p_uc _ _ _ _ _ hc') (p_ur _ _ _ _) (by decide)⟩
theorem s_carry2 (hB' : p_B X') (hk' : t_SK k') (a' b' : Int32) : ∃ J', F_X0_carryOut 66 k' 2 a' b' (I', X') = some (t_b (t_can H' (I' (k' + 1)) 2 a' b'), (J', X')) ∧ t_CR H' L' I' X' k' 2 a' b' J' := by
  unfold F_X0_carryOut F_X0_fallIll
  by_cases h' : I' (k' + 1) 1 < 3
  · have hc' : t_can H' (I' (k' + 1)) 2 a' b' = true := by simp [t_can, h']
    simp (disch := omega) only [↓ce_66 hB', rf_66 hB', ↓nn_40, ↓nn_64, p_bs, p_rq0, p_rq1, p_rz0, p_rz1, p_us, p_un, p_uj, ↓reduceIte, p_st hk' hB', h', show ((2 : Int32) = 0) = False from by decide, show ((2 : Int32) = 1) = False from by decide]
    rw [hc']
    exact ⟨_, rfl, t_CR1 hc' (fun c' hc' => p_uc _ _ _ _ _ hc') (p_ur _ _ _ _) (by decide)⟩
  · have hc' : t_can H' (I' (k' + 1)) 2 a' b' = false := by simp [t_can, h']
    simp (disch := omega) only [↓ce_66 hB', rf_66 hB', ↓nn_40, ↓nn_64, p_bs, p_rq0, p_rq1, p_rz0, p_rz1, p_us, p_un, p_uj, ↓reduceIte, p_st hk' hB', h', show ((2 : Int32) = 0) = False from by decide, show ((2 : Int32) = 1) = False from by decide]
    rw [hc']
    exact ⟨I', rfl, t_CR0 hc'⟩
theorem s_carry3 (hB' : p_B X') (hk' : t_SK k') (a' b' : Int32) : ∃ J', F_X0_carryOut 66 k' 3 a' b' (I', X') = some (t_b (t_can H' (I' (k' + 1)) 3 a' b'), (J', X')) ∧ t_CR H' L' I' X' k' 3 a' b' J' := by
  unfold F_X0_carryOut F_X0_makeHandUp
  by_cases h' : 0 < I' (k' + 1) 1
  · by_cases h2' : I' (k' + 1) 2 < 5
    · have hc' : t_can H' (I' (k' + 1)) 3 a' b' = false := by simp [t_can, h2']
      simp (disch := omega) only [↓ce_66 hB', rf_66 hB', ↓nn_40, ↓nn_64, p_bs, p_rq0, p_rq1, p_rz0, p_rz1, p_us, p_un, p_uj, ↓reduceIte, p_st hk' hB', h', h2', show ((3 : Int32) = 0) = False from by decide, show ((3 : Int32) = 1) = False from by decide, show ((3 : Int32) = 2) = False from by decide]
      rw [hc']
      exact ⟨I', rfl, t_CR0 hc'⟩
    · have hc' : t_can H' (I' (k' + 1)) 3 a' b' = true := by simp [t_can, h', h2']
      simp (disch := omega) only [↓ce_66 hB', rf_66 hB', ↓nn_40, ↓nn_64, p_bs, p_rq0, p_rq1, p_rz0, p_rz1, p_us, p_un, p_uj, ↓reduceIte, p_st hk' hB', h', h2', show ((3 : Int32) = 0) = False from by decide, show ((3 : Int32) = 1) = False from by decide, show ((3 : Int32) = 2) = False from by decide]
      rw [hc']
      refine ⟨_, rfl, t_CR1 hc' (fun c' hc' => by rw [p_uc _ _ _ _ _ hc', p_uc _ _ _ _ _ hc']) ?_ (by decide)⟩
      rw [p_ur, p_ur]
      rfl
  · have hc' : t_can H' (I' (k' + 1)) 3 a' b' = false := by simp [t_can, h']
    simp (disch := omega) only [↓ce_66 hB', rf_66 hB', ↓nn_40, ↓nn_64, p_bs, p_rq0, p_rq1, p_rz0, p_rz1, p_us, p_un, p_uj, ↓reduceIte, p_st hk' hB', h', show ((3 : Int32) = 0) = False from by decide, show ((3 : Int32) = 1) = False from by decide, show ((3 : Int32) = 2) = False from by decide]
    rw [hc']
    exact ⟨I', rfl, t_CR0 hc'⟩
theorem s_carry4 (hB' : p_B X') (hH' : t_HI H' I') (hk' : t_SK k') (a' b' : Int32) : ∃ J', F_X0_carryOut 66 k' 4 a' b' (I', X') = some (t_b (t_can H' (I' (k' + 1)) 4 a' b'), (J', X')) ∧ t_CR H' L' I' X' k' 4 a' b' J' := by
  have hng' : t_ng H' ≤ 6 := hH'.2.2.2.2.2.2.2
  have hg' := s_hasGuest hB' hH' a'
  unfold F_X0_carryOut F_X0_stayLonger
  cases hr' : t_inr a' (t_ng H')
  · have hc' : t_can H' (I' (k' + 1)) 4 a' b' = false := by simp [t_can, hr']
    simp (disch := omega) only [↓ce_66 hB', rf_66 hB', ↓ce_39 hB', rf_39 hB', ↓nn_40, ↓nn_41, ↓nn_42, ↓nn_43, ↓nn_44, ↓nn_64, p_bs, p_rq0, p_rq1, p_rz0, p_rz1, p_us, p_un, p_uj, ↓reduceIte, p_st hk' hB', hg', hr', t_b0, show ((4 : Int32) = 0) = False from by decide, show ((4 : Int32) = 1) = False from by decide, show ((4 : Int32) = 2) = False from by decide, show ((4 : Int32) = 3) = False from by decide]
    rw [hc']
    exact ⟨I', rfl, t_CR0 hc'⟩
  · obtain ⟨g', hgl', rfl⟩ := t_inrE (by omega) hr'
    have hl' := s_hasLeft (I' := I') hB' hk' g'
    have e13' : (13 : Int32) + Int32.ofNat g' = Int32.ofNat (13 + g') := (Int32.ofNat_add 13 g').symm
    have hn' : (Int32.ofNat g').toNatClampNeg = g' := p_nat g' (by omega)
    cases hb' : t_bit (I' (k' + 1) 4) g'
    · by_cases h1' : b' < 1
      · have hc' : t_can H' (I' (k' + 1)) 4 (Int32.ofNat g') b' = false := by simp [t_can, h1']
        simp (disch := omega) only [↓ce_66 hB', rf_66 hB', ↓ce_39 hB', rf_39 hB', ↓nn_40, ↓nn_41, ↓nn_42, ↓nn_43, ↓nn_44, ↓nn_64, p_bs, p_rq0, p_rq1, p_rz0, p_rz1, p_us, p_un, p_uj, ↓reduceIte, p_st hk' hB', hg', hr', hl', hb', h1', t_b0, Bool.true_eq_false, show ((4 : Int32) = 0) = False from by decide, show ((4 : Int32) = 1) = False from by decide, show ((4 : Int32) = 2) = False from by decide, show ((4 : Int32) = 3) = False from by decide]
        rw [hc']
        exact ⟨I', rfl, t_CR0 hc'⟩
      · by_cases h9' : 9 < b'
        · have hc' : t_can H' (I' (k' + 1)) 4 (Int32.ofNat g') b' = false := by simp [t_can, h9']
          simp (disch := omega) only [↓ce_66 hB', rf_66 hB', ↓ce_39 hB', rf_39 hB', ↓nn_40, ↓nn_41, ↓nn_42, ↓nn_43, ↓nn_44, ↓nn_64, p_bs, p_rq0, p_rq1, p_rz0, p_rz1, p_us, p_un, p_uj, ↓reduceIte, p_st hk' hB', hg', hr', hl', hb', h1', h9', t_b0, Bool.true_eq_false, show ((4 : Int32) = 0) = False from by decide, show ((4 : Int32) = 1) = False from by decide, show ((4 : Int32) = 2) = False from by decide, show ((4 : Int32) = 3) = False from by decide]
          rw [hc']
          exact ⟨I', rfl, t_CR0 hc'⟩
        · by_cases h99' : 99 < I' (k' + 1) (13 + g') + b'
          · have hc' : t_can H' (I' (k' + 1)) 4 (Int32.ofNat g') b' = false := by simp only [t_can, hn']; simp [h99']
            simp (disch := omega) only [↓ce_66 hB', rf_66 hB', ↓ce_39 hB', rf_39 hB', ↓nn_40, ↓nn_41, ↓nn_42, ↓nn_43, ↓nn_44, ↓nn_64, p_bs, p_rq0, p_rq1, p_rz0, p_rz1, p_us, p_un, p_uj, ↓reduceIte, p_st hk' hB', hg', hr', hl', hb', h1', h9', e13', h99', t_b0, Bool.true_eq_false, show ((4 : Int32) = 0) = False from by decide, show ((4 : Int32) = 1) = False from by decide, show ((4 : Int32) = 2) = False from by decide, show ((4 : Int32) = 3) = False from by decide]
            rw [hc']
            exact ⟨I', rfl, t_CR0 hc'⟩
          · have hc' : t_can H' (I' (k' + 1)) 4 (Int32.ofNat g') b' = true := by simp only [t_can, hn']; simp [hr', hb', h1', h9', h99']
            simp (disch := omega) only [↓ce_66 hB', rf_66 hB', ↓ce_39 hB', rf_39 hB', ↓nn_40, ↓nn_41, ↓nn_42, ↓nn_43, ↓nn_44, ↓nn_64, p_bs, p_rq0, p_rq1, p_rz0, p_rz1, p_us, p_un, p_uj, ↓reduceIte, p_st hk' hB', hg', hr', hl', hb', h1', h9', e13', h99', t_b0, Bool.true_eq_false, show ((4 : Int32) = 0) = False from by decide, show ((4 : Int32) = 1) = False from by decide, show ((4 : Int32) = 2) = False from by decide, show ((4 : Int32) = 3) = False from by decide]
            rw [hc']
            refine ⟨_, rfl, t_CR1 hc' (fun c' hc' => p_uc _ _ _ _ _ hc') ?_ (by decide)⟩
            rw [p_ur]
            unfold t_do
            rw [hn']
            rfl
    · have hc' : t_can H' (I' (k' + 1)) 4 (Int32.ofNat g') b' = false := by simp only [t_can, hn']; simp [hb']
      simp (disch := omega) only [↓ce_66 hB', rf_66 hB', ↓ce_39 hB', rf_39 hB', ↓nn_40, ↓nn_41, ↓nn_42, ↓nn_43, ↓nn_44, ↓nn_64, p_bs, p_rq0, p_rq1, p_rz0, p_rz1, p_us, p_un, p_uj, ↓reduceIte, p_st hk' hB', hg', hr', hl', hb', t_b0, Bool.true_eq_false, show ((4 : Int32) = 0) = False from by decide, show ((4 : Int32) = 1) = False from by decide, show ((4 : Int32) = 2) = False from by decide, show ((4 : Int32) = 3) = False from by decide]
      rw [hc']
      exact ⟨I', rfl, t_CR0 hc'⟩
theorem s_carry5 (hB' : p_B X') (hH' : t_HI H' I') (hk' : t_SK k') (a' b' : Int32) : ∃ J', F_X0_carryOut 66 k' 5 a' b' (I', X') = some (t_b (t_can H' (I' (k' + 1)) 5 a' b'), (J', X')) ∧ t_CR H' L' I' X' k' 5 a' b' J' := by
  have hng' : t_ng H' ≤ 6 := hH'.2.2.2.2.2.2.2
  have hg' := s_hasGuest hB' hH' a'
  have key' : ∀ o2' o1' : Option (Int32 × q_Mem), (if b' < 0 then o1' else if b' < 4 then o2' else o1') = if t_inr b' 4 = true then o2' else o1' := fun o2' o1' => t_ifr b' 4 4 rfl o1' o2'
  unfold F_X0_carryOut F_X0_likeAnother
  cases hr' : t_inr a' (t_ng H')
  · have hc' : t_can H' (I' (k' + 1)) 5 a' b' = false := by simp [t_can, hr']
    simp (disch := omega) only [↓ce_66 hB', rf_66 hB', ↓ce_39 hB', rf_39 hB', ↓nn_40, ↓nn_41, ↓nn_42, ↓nn_43, ↓nn_44, ↓nn_64, p_bs, p_rq0, p_rq1, p_rz0, p_rz1, p_us, p_un, p_uj, ↓reduceIte, p_st hk' hB', hg', hr', t_b0, show ((5 : Int32) = 0) = False from by decide, show ((5 : Int32) = 1) = False from by decide, show ((5 : Int32) = 2) = False from by decide, show ((5 : Int32) = 3) = False from by decide, show ((5 : Int32) = 4) = False from by decide]
    rw [hc']
    exact ⟨I', rfl, t_CR0 hc'⟩
  · obtain ⟨g', hgl', rfl⟩ := t_inrE (by omega) hr'
    have e19' : (19 : Int32) + Int32.ofNat g' = Int32.ofNat (19 + g') := (Int32.ofNat_add 19 g').symm
    have hn' : (Int32.ofNat g').toNatClampNeg = g' := p_nat g' (by omega)
    cases hb' : t_inr b' 4
    · have hc' : t_can H' (I' (k' + 1)) 5 (Int32.ofNat g') b' = false := by simp [t_can, hb']
      simp (disch := omega) only [↓ce_66 hB', rf_66 hB', ↓ce_39 hB', rf_39 hB', ↓nn_40, ↓nn_41, ↓nn_42, ↓nn_43, ↓nn_44, ↓nn_64, p_bs, p_rq0, p_rq1, p_rz0, p_rz1, p_us, p_un, p_uj, ↓reduceIte, p_st hk' hB', hg', hr', t_b0, Bool.true_eq_false, key', hb', Bool.false_eq_true, show ((5 : Int32) = 0) = False from by decide, show ((5 : Int32) = 1) = False from by decide, show ((5 : Int32) = 2) = False from by decide, show ((5 : Int32) = 3) = False from by decide, show ((5 : Int32) = 4) = False from by decide]
      rw [hc']
      exact ⟨I', rfl, t_CR0 hc'⟩
    · by_cases h' : I' (k' + 1) (19 + g') = b'
      · have hc' : t_can H' (I' (k' + 1)) 5 (Int32.ofNat g') b' = false := by simp only [t_can, hn']; simp [h']
        simp (disch := omega) only [↓ce_66 hB', rf_66 hB', ↓ce_39 hB', rf_39 hB', ↓nn_40, ↓nn_41, ↓nn_42, ↓nn_43, ↓nn_44, ↓nn_64, p_bs, p_rq0, p_rq1, p_rz0, p_rz1, p_us, p_un, p_uj, ↓reduceIte, p_st hk' hB', hg', hr', t_b0, Bool.true_eq_false, key', hb', e19', h', show ((5 : Int32) = 0) = False from by decide, show ((5 : Int32) = 1) = False from by decide, show ((5 : Int32) = 2) = False from by decide, show ((5 : Int32) = 3) = False from by decide, show ((5 : Int32) = 4) = False from by decide]
        rw [hc']
        exact ⟨I', rfl, t_CR0 hc'⟩
      · have hc' : t_can H' (I' (k' + 1)) 5 (Int32.ofNat g') b' = true := by simp only [t_can, hn']; simp [hr', hb', h']
        simp (disch := omega) only [↓ce_66 hB', rf_66 hB', ↓ce_39 hB', rf_39 hB', ↓nn_40, ↓nn_41, ↓nn_42, ↓nn_43, ↓nn_44, ↓nn_64, p_bs, p_rq0, p_rq1, p_rz0, p_rz1, p_us, p_un, p_uj, ↓reduceIte, p_st hk' hB', hg', hr', t_b0, Bool.true_eq_false, key', hb', e19', h', show ((5 : Int32) = 0) = False from by decide, show ((5 : Int32) = 1) = False from by decide, show ((5 : Int32) = 2) = False from by decide, show ((5 : Int32) = 3) = False from by decide, show ((5 : Int32) = 4) = False from by decide]
        rw [hc']
        refine ⟨_, rfl, t_CR1 hc' (fun c' hc' => p_uc _ _ _ _ _ hc') ?_ (by decide)⟩
        rw [p_ur]
        unfold t_do
        rw [hn']
        rfl
theorem s_carry (hB' : p_B X') (hH' : t_HI H' I') (hW' : t_HW H') (hk' : t_SK k') (hS' : t_WF H' (I' (k' + 1))) (hL' : t_LC L' X' I') (op' : Nat) (hop' : op' < 6) (a' b' : Int32) : ∃ J', F_X0_carryOut 66 k' (Int32.ofNat op') a' b' (I', X') = some (t_b (t_can H' (I' (k' + 1)) op' a' b'), (J', X')) ∧ t_CR H' L' I' X' k' op' a' b' J' := by
  match op', hop' with
  | 0, _ => exact s_carry0 hB' hH' hW' hk' hS' hL' a' b'
  | 1, _ => exact s_carry1 hB' hH' hk' a' b'
  | 2, _ => exact s_carry2 hB' hk' a' b'
  | 3, _ => exact s_carry3 hB' hk' a' b'
  | 4, _ => exact s_carry4 hB' hH' hk' a' b'
  | 5, _ => exact s_carry5 hB' hH' hk' a' b'
end PA'
