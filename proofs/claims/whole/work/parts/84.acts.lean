/-! ACTS: what is kept of them -/
theorem t_WFa {H' : t_H} {s' s'' : Nat → Int32} (h' : t_WF H' s') (k' : ∀ j', j' < 31 → s'' j' = s' j') : t_WF H' s'' := by
  obtain ⟨a1', a2', a3', a4', a5', a6', a7', a8'⟩ := h'
  refine ⟨by rw [k' 0 (by omega)]; exact a1', by rw [k' 1 (by omega)]; exact a2', by rw [k' 3 (by omega)]; exact a3', fun j' hj' => by rw [k' _ (by omega)]; exact a4' j' hj', fun j' hj' => by rw [k' _ (by omega)]; exact a5' j' hj', fun g' hg' => by rw [k' _ (by omega)]; exact a6' g' hg', by rw [k' 4 (by omega)]; exact a7', fun g' h1' h2' => by rw [k' _ (by omega)]; exact a8' g' h1' h2'⟩
theorem t_RSa {s' s'' w' w'' : Nat → Int32} (h' : t_RS s' w') (k' : ∀ j', j' < 31 → s'' j' = s' j') (k'' : ∀ j', j' < 36 → w'' j' = w' j') : t_RS s'' w'' := by
  obtain ⟨⟨r1', r2', r3', r4'⟩, r5', r6'⟩ := t_RSk h' k''
  refine ⟨⟨fun g' hg' => ?_, ?_, ?_, ?_⟩, fun j' hj' => ?_, ?_⟩
  · rw [k' (13 + g') (by omega), k' (19 + g') (by omega), k' (25 + g') (by omega), k' 4 (by omega)]; exact r1' g' hg'
  · rw [k' 1 (by omega)]; exact r2'
  · rw [k' 3 (by omega)]; exact r3'
  · rw [k' 0 (by omega)]; exact r4'
  · rw [k' (5 + j') (by omega), k' (9 + j') (by omega)]; exact r5' j' hj'
  · rw [k' 2 (by omega)]; exact r6'
theorem v_Ra {H' : t_H} {s' s'' w' w'' lg' : Nat → Int32} {d' : Nat} (h' : v_R H' s' w' lg' d') (k' : ∀ j', j' < 31 → s'' j' = s' j') (k'' : ∀ j', j' < 217 → w'' j' = w' j') : v_R H' s'' w'' lg' d' := by
  obtain ⟨a1', a2', a3', a4', a5', a6', a7'⟩ := h'
  exact ⟨t_WFa a1' k', t_RSa a2' k' (fun j' hj' => k'' j' (by omega)), by rw [k' 0 (by omega)]; exact a3', a4', fun g' hg' => by rw [k' _ (by omega)]; exact a5' g' hg', by rw [k'' 36 (by omega)]; exact a6', fun i' hi' q' hq' => by rw [k'' _ (by omega)]; exact a7' i' hi' q' hq'⟩
theorem v_Rlg {H' : t_H} {s' w' lg' lg'' : Nat → Int32} {d' : Nat} (h' : v_R H' s' w' lg' d') (k' : ∀ x' q', q' < 3 → x' < d' → d' ≤ x' + 60 → lg'' ((x' % 128) * 3 + q') = lg' ((x' % 128) * 3 + q')) : v_R H' s' w' lg'' d' := by
  obtain ⟨a1', a2', a3', a4', a5', a6', a7'⟩ := h'
  refine ⟨a1', a2', a3', a4', a5', a6', fun i' hi' q' hq' => ?_⟩
  rw [k' _ q' hq' (by omega) (by omega)]
  exact a7' i' hi' q' hq'
/-- an act is put on the pile -/
def t_PU (I' K' : p_I) (k' m' : Nat) : Prop := K' 57 5 = Int32.ofNat (if m' + 1 < 40 then m' + 1 else 0) ∧ K' 57 6 = Int32.ofNat (min (k' + 1) 40) ∧ K' 87 42 = Int32.ofNat (min (k' + 1) 40) ∧ (∀ x', ¬ (m' * 31 ≤ x' ∧ x' < m' * 31 + 31) → K' 58 x' = I' 58 x') ∧ (∀ i', i' < 31 → K' 58 (m' * 31 + i') = I' 54 i') ∧ (k' < 40 → ∀ x', x' < 217 * k' → K' 103 x' = I' 103 x') ∧ (k' = 40 → ∀ x', x' < 217 * 39 → K' 103 x' = I' 103 (x' + 217)) ∧ (∀ i', i' < 217 → K' 103 (217 * (min k' 39) + i') = I' 100 i')
theorem v_push {H' : t_H} {hz' : Bool} {I' K' : p_I} {D' D'' : Nat} (hP' : v_P H' hz' I' D') (hzt' : hz' = true) (hR' : v_R H' (I' 54) (I' 100) (I' 59) D') (hK' : ∀ k' m', k' ≤ 40 → m' < 40 → I' 57 6 = Int32.ofNat k' → I' 57 5 = Int32.ofNat m' → I' 87 42 = Int32.ofNat k' → t_PU I' K' k' m') (hlg' : ∀ x' q', q' < 3 → x' < D' → D' ≤ x' + 100 → K' 59 ((x' % 128) * 3 + q') = I' 59 ((x' % 128) * 3 + q')) (h1' : D' ≤ D'') (h2' : D'' ≤ D' + 1) : v_P H' hz' K' D'' := by
  obtain ⟨k', m', dd', q1', q2', q3', q4', q5', q6', q7', q8'⟩ := hP'
  obtain ⟨u1', u2', u3', u4', u5', u6', u7', u8'⟩ := hK' k' m' q1' q2' q3' q4' q5'
  have hch' : ∀ t', t' ≤ k' → dd' (k' - t') ≤ D' ∧ D' ≤ dd' (k' - t') + t' := by
    intro t'
    induction t' with
    | zero => intro _; rw [Nat.sub_zero, q7']; exact ⟨Nat.le_refl _, by omega⟩
    | succ t' ih' =>
      intro ht'
      have := ih' (by omega)
      have h3' := (q8' (k' - (t' + 1)) (by omega)).2
      rw [show k' - (t' + 1) + 1 = k' - t' by omega] at h3'
      omega
  have hold : ∀ j', j' < k' → v_R H' (t_ar I' m' k' j') (t_aw I' j') (K' 59) (dd' j') := fun j' hj' => by
    have h3' := hch' (k' - j') (by omega)
    rw [show k' - (k' - j') = j' by omega] at h3'
    exact v_Rlg (q8' j' hj').1 (fun x' q' hq' hx1' hx2' => hlg' x' q' hq' (by omega) (by omega))
  have hnew : v_R H' (I' 54) (I' 100) (K' 59) D' := v_Rlg hR' (fun x' q' hq' hx1' hx2' => hlg' x' q' hq' hx1' (by omega))
  by_cases hk' : k' < 40
  · have e1' : min (k' + 1) 40 = k' + 1 := by omega
    have e2' : min k' 39 = k' := by omega
    rw [e1'] at u2' u3'
    rw [e2'] at u8'
    refine ⟨k' + 1, (if m' + 1 < 40 then m' + 1 else 0), (fun j' => if j' = k' + 1 then D'' else dd' j'), by omega, by split <;> omega, u2', u1', u3', (fun h' => by rw [hzt'] at h'; cases h'), (by simp), fun j' hj' => ?_⟩
    show v_R H' (t_ar K' (if m' + 1 < 40 then m' + 1 else 0) (k' + 1) j') (t_aw K' j') (K' 59) (if j' = k' + 1 then D'' else dd' j') ∧ (if j' = k' + 1 then D'' else dd' j') ≤ (if j' + 1 = k' + 1 then D'' else dd' (j' + 1)) ∧ (if j' + 1 = k' + 1 then D'' else dd' (j' + 1)) ≤ (if j' = k' + 1 then D'' else dd' j') + 1
    have hsl' : ((if m' + 1 < 40 then m' + 1 else 0) + 40 - (k' + 1) + j') % 40 = (m' + 40 - k' + j') % 40 := by
      split <;> omega
    by_cases e' : j' = k'
    · subst e'
      have hs' : (m' + 40 - j' + j') % 40 = m' := by omega
      refine ⟨?_, ?_⟩
      · have he' : (if j' = j' + 1 then D'' else dd' j') = D' := by rw [if_neg (by omega), q7']
        rw [he']
        refine v_Ra hnew (fun i' hi' => ?_) (fun i' hi' => ?_)
        · unfold t_ar
          rw [hsl', hs']
          exact u5' i' hi'
        · unfold t_aw
          exact u8' i' hi'
      · rw [if_neg (by omega), if_pos rfl, q7']; exact ⟨h1', h2'⟩
    · refine ⟨?_, ?_⟩
      · have he' : (if j' = k' + 1 then D'' else dd' j') = dd' j' := by rw [if_neg (by omega)]
        rw [he']
        refine v_Ra (hold j' (by omega)) (fun i' hi' => ?_) (fun i' hi' => ?_)
        · unfold t_ar
          rw [hsl']
          exact u4' _ (by omega)
        · unfold t_aw
          exact u6' hk' _ (by
            have : 217 * (j' + 1) ≤ 217 * k' := Nat.mul_le_mul_left 217 (by omega)
            omega)
      · rw [if_neg (by omega), if_neg (by omega)]
        exact (q8' j' (by omega)).2
  · have hk40' : k' = 40 := by omega
    subst hk40'
    have e1' : min (40 + 1) 40 = 40 := by omega
    have e2' : min 40 39 = 39 := by omega
    rw [e1'] at u2' u3'
    rw [e2'] at u8'
    refine ⟨40, (if m' + 1 < 40 then m' + 1 else 0), (fun j' => if j' = 40 then D'' else dd' (j' + 1)), by omega, by split <;> omega, u2', u1', u3', (fun h' => by rw [hzt'] at h'; cases h'), (by simp), fun j' hj' => ?_⟩
    show v_R H' (t_ar K' (if m' + 1 < 40 then m' + 1 else 0) 40 j') (t_aw K' j') (K' 59) (if j' = 40 then D'' else dd' (j' + 1)) ∧ (if j' = 40 then D'' else dd' (j' + 1)) ≤ (if j' + 1 = 40 then D'' else dd' (j' + 1 + 1)) ∧ (if j' + 1 = 40 then D'' else dd' (j' + 1 + 1)) ≤ (if j' = 40 then D'' else dd' (j' + 1)) + 1
    have hsl' : ((if m' + 1 < 40 then m' + 1 else 0) + 40 - 40 + j') % 40 = (m' + 40 - 40 + (j' + 1)) % 40 := by
      split <;> omega
    by_cases e' : j' = 39
    · subst e'
      have hs' : (m' + 40 - 40 + (39 + 1)) % 40 = m' := by omega
      refine ⟨?_, ?_⟩
      · have he' : (if 39 = 40 then D'' else dd' (39 + 1)) = D' := q7'
        rw [he']
        refine v_Ra hnew (fun i' hi' => ?_) (fun i' hi' => ?_)
        · unfold t_ar
          rw [hsl', hs']
          exact u5' i' hi'
        · unfold t_aw
          exact u8' i' hi'
      · show dd' 40 ≤ D'' ∧ D'' ≤ dd' 40 + 1
        rw [q7']; exact ⟨h1', h2'⟩
    · refine ⟨?_, ?_⟩
      · have he' : (if j' = 40 then D'' else dd' (j' + 1)) = dd' (j' + 1) := by rw [if_neg (by omega)]
        rw [he']
        refine v_Ra (hold (j' + 1) (by omega)) (fun i' hi' => ?_) (fun i' hi' => ?_)
        · unfold t_ar
          rw [hsl']
          exact u4' _ (by omega)
        · unfold t_aw
          rw [u7' rfl (217 * j' + i') (by omega), show 217 * j' + i' + 217 = 217 * (j' + 1) + i' by omega]
      · rw [if_neg (by omega), if_neg (by omega)]
        exact (q8' (j' + 1) (by omega)).2
section PA'
variable {X' : p_X} {I' : p_I}
theorem s_cp {β : Type} {a' b' la' lb' : Nat} (ha' : X'.2.2[a']? = some (.inr (0, la'))) (hb' : X'.2.2[b']? = some (.inr (0, lb'))) (ha'' : q_NS ≤ a') (hb'' : q_NS ≤ b') (sp' dp' n' : Nat) (hn' : 0 < n') (h1' : sp' + n' ≤ la') (h2' : dp' + n' ≤ lb') (hla' : la' < 100000) (hlb' : lb' < 100000) (f' : q_Mem → Option β) : q_cp (I', X') a' (Int32.ofNat sp') b' (Int32.ofNat dp') (Int32.ofNat n') f' = f' (va_up I' b' (va_cpy (I' a') (I' b') sp' dp' n'), X') := by
  unfold q_cp
  rw [p_nat sp' (by omega), p_nat dp' (by omega), p_nat n' (by omega), p_ln ha', p_ln hb', if_neg]
  · rfl
  · rintro ((h' | h' | h') | h' | h' | h' | h')
    · exact p_nn sp' (by omega) h'
    · exact p_nn dp' (by omega) h'
    · exact h' (by rw [show (0 : Int32) = Int32.ofNat 0 from rfl, p_lt 0 n' (by omega) (by omega)]; exact hn')
    · omega
    · omega
    · omega
    · omega
theorem p_ucp (I' : p_I) (b' : Nat) (f' : Nat → Int32) (c' : Nat) (h' : c' ≠ b') : va_up I' b' f' c' = I' c' := by simp [va_up, h']
theorem p_usp (I' : p_I) (b' : Nat) (f' : Nat → Int32) : va_up I' b' f' b' = f' := by simp [va_up]
theorem s_copyFrom (hB' : p_B X') {k1' k2' : Nat} (h1' : t_SK k1') (h2' : t_SK k2') : ∃ J', F_X8_copyFrom k1' k2' (I', X') = some ((), (J', X')) ∧ (∀ c', c' ≠ k1' + 1 → J' c' = I' c') ∧ (∀ j', j' < 31 → J' (k1' + 1) j' = I' (k2' + 1) j') := by
  obtain ⟨a1', a2', a3', a4', a5'⟩ := p_cs k1' h1' hB'
  obtain ⟨b1', b2', b3', b4', b5'⟩ := p_cs k2' h2' hB'
  unfold F_X8_copyFrom
  have hc' := s_cp (I' := I') b2' a2' b5' a5' 0 0 31 (by decide) (by decide) (by decide) (by decide) (by decide) (fun M5' => some ((), M5'))
  have hc'' : q_cp (I', X') (k2' + 1) 0 (k1' + 1) 0 31 (fun M5' => some ((), M5')) = some ((), (va_up I' (k1' + 1) (va_cpy (I' (k2' + 1)) (I' (k1' + 1)) 0 0 31), X')) := hc'
  rw [p_gR b1', b3', p_nns, p_gR a1', a3', p_nns, hc'']
  refine ⟨_, rfl, fun c' hc' => p_ucp _ _ _ _ hc', fun j' hj' => ?_⟩
  rw [p_usp]
  unfold va_cpy
  rw [if_pos ⟨by omega, by omega⟩]
  congr 1
  omega
theorem s_keepAct (hB' : p_B X') {k' m' : Nat} (hk' : k' ≤ 40) (hm' : m' < 40) (h6' : I' 57 6 = Int32.ofNat k') (h5' : I' 57 5 = Int32.ofNat m') : ∃ J', F_X6_keepAct 57 55 (I', X') = some ((), (J', X')) ∧ (∀ c', c' ≠ 57 → c' ≠ 58 → J' c' = I' c') ∧ (∀ j', j' ≠ 5 → j' ≠ 6 → J' 57 j' = I' 57 j') ∧ J' 57 5 = Int32.ofNat (if m' + 1 < 40 then m' + 1 else 0) ∧ J' 57 6 = Int32.ofNat (min (k' + 1) 40) ∧ (∀ x', ¬ (m' * 31 ≤ x' ∧ x' < m' * 31 + 31) → J' 58 x' = I' 58 x') ∧ (∀ i', i' < 31 → J' 58 (m' * 31 + i') = I' 56 i') := by
  have hmn' : q_mn (Int32.ofNat (k' + 1)) 40 = Int32.ofNat (min (k' + 1) 40) := by
    unfold q_mn
    have e' : (40 < Int32.ofNat (k' + 1)) = (40 < k' + 1) := p_lt 40 (k' + 1) (by decide) (by omega)
    by_cases h1' : 40 < k' + 1
    · rw [if_pos (by rw [e']; exact h1'), Nat.min_eq_right (by omega)]; rfl
    · rw [if_neg (by rw [e']; exact h1'), Nat.min_eq_left (by omega)]
  have hcp' : ∀ f' : q_Mem → Option (Unit × q_Mem), q_cp (I', X') 56 0 58 (Int32.ofNat (m' * 31)) 31 f' = f' (va_up I' 58 (va_cpy (I' 56) (I' 58) 0 (m' * 31) 31), X') := fun f' => s_cp (sh_56 hB') (sh_58 hB') (by decide) (by decide) 0 (m' * 31) 31 (by decide) (by decide) (by omega) (by decide) (by decide) f'
  have g6' : va_up I' 58 (va_cpy (I' 56) (I' 58) 0 (m' * 31) 31) 57 6 = Int32.ofNat k' := by rw [p_ucp _ _ _ _ (by decide)]; exact h6'
  have g5' : va_up I' 58 (va_cpy (I' 56) (I' 58) 0 (m' * 31) 31) 57 5 = Int32.ofNat m' := by rw [p_ucp _ _ _ _ (by decide)]; exact h5'
  unfold F_X6_keepAct J_X6_keepAct_43
  simp (disch := omega) only [↓ce_55 hB', rf_55 hB', ↓ce_57 hB', rf_57 hB', ↓nn_57, ↓nn_59, ↓nn_60, ↓nn_61, ↓nn_62, p_bs, p_rq0, p_rq1, p_rz0, p_rz1, p_us, p_un, p_uj, ↓reduceIte, h5', p_ar, hcp']
  have hx' : ∀ s1' : Nat, ∃ J', (some ((), (q_u2 (q_u2 (va_up I' 58 (va_cpy (I' 56) (I' 58) 0 (m' * 31) 31)) 57 5 (Int32.ofNat s1')) 57 6 (Int32.ofNat (min (k' + 1) 40)), X')) : Option (Unit × q_Mem)) = some ((), (J', X')) ∧ (∀ c', c' ≠ 57 → c' ≠ 58 → J' c' = I' c') ∧ (∀ j', j' ≠ 5 → j' ≠ 6 → J' 57 j' = I' 57 j') ∧ J' 57 5 = Int32.ofNat s1' ∧ J' 57 6 = Int32.ofNat (min (k' + 1) 40) ∧ (∀ x', ¬ (m' * 31 ≤ x' ∧ x' < m' * 31 + 31) → J' 58 x' = I' 58 x') ∧ (∀ i', i' < 31 → J' 58 (m' * 31 + i') = I' 56 i') := by
    intro s1'
    refine ⟨_, rfl, fun c' h1' h2' => by rw [p_uc _ _ _ _ _ h1', p_uc _ _ _ _ _ h1', p_ucp _ _ _ _ h2'], fun j' h1' h2' => by rw [p_uj _ _ _ _ _ h2', p_uj _ _ _ _ _ h1', p_ucp _ _ _ _ (by decide)], by rw [p_uj _ _ _ _ _ (by decide), p_us], p_us _ _ _ _, fun x' hx' => ?_, fun i' hi' => ?_⟩
    · rw [p_uc _ _ _ _ _ (by decide), p_uc _ _ _ _ _ (by decide), p_usp]
      unfold va_cpy
      rw [if_neg hx']
    · rw [p_uc _ _ _ _ _ (by decide), p_uc _ _ _ _ _ (by decide), p_usp]
      unfold va_cpy
      rw [if_pos ⟨by omega, by omega⟩]
      congr 1
      omega
  by_cases hm1' : m' + 1 < 40
  · simp (disch := omega) only [↓ce_57 hB', rf_57 hB', ↓nn_59, ↓nn_60, ↓nn_61, ↓nn_62, p_bs, p_rq0, p_rq1, p_rz0, p_rz1, p_us, p_un, p_uj, ↓reduceIte, g5', g6', p_ar, p_cm, hm1', hmn']
    exact hx' (m' + 1)
  · simp (disch := omega) only [↓ce_57 hB', rf_57 hB', ↓nn_59, ↓nn_60, ↓nn_61, ↓nn_62, p_bs, p_rq0, p_rq1, p_rz0, p_rz1, p_us, p_un, p_uj, ↓reduceIte, g5', g6', p_ar, p_cm, hm1', hmn']
    exact hx' 0
theorem s_writeLog (hB' : p_B X') {D' : Nat} (hD' : D' < 2000) (h0' : I' 54 0 = Int32.ofNat (D' + 1)) : ∃ J', F_X6_writeLog 57 53 63 (I', X') = some ((), (J', X')) ∧ (∀ c', c' ≠ 59 → J' c' = I' c') ∧ (∀ x', ¬ (D' % 128 * 3 ≤ x' ∧ x' < D' % 128 * 3 + 3) → J' 59 x' = I' 59 x') ∧ (∀ q', q' < 3 → J' 59 (D' % 128 * 3 + q') = t_e3 (I' 63 7) (I' 63 10) (t_sm (I' 54) 6) q') := by
  have hm' := Nat.mod_lt D' (show 0 < 128 by decide)
  unfold F_X6_writeLog F_X6_logRow
  simp (disch := omega) only [↓ce_53 hB', rf_53 hB', ↓ce_54 hB', ↓ce_57 hB', rf_57 hB', ↓ce_63 hB', rf_63 hB', ↓nn_40, ↓nn_55, ↓nn_59, ↓nn_60, ↓nn_61, ↓nn_62, ↓nn_65, ↓nn_66, p_bs, p_rq0, p_rq1, p_rz0, p_rz1, p_us, p_un, p_uj, ↓reduceIte, h0', p_sub1', p_a127, p_ar]
  have hj' : ∀ a' b', F_X8_joyOfAll 53 (q_u2 (q_u2 I' 59 a' (I' 63 7)) 59 b' (I' 63 10), X') = some (t_sm (I' 54) 6) := fun a' b' => by
    rw [s_joyOfAll hB' (.inl rfl)]
    simp (disch := omega) only [p_uc]
  simp (disch := omega) only [↓ce_53 hB', rf_53 hB', ↓ce_57 hB', rf_57 hB', ↓ce_59 hB', ↓ce_63 hB', rf_63 hB', ↓nn_40, ↓nn_55, ↓nn_59, ↓nn_60, ↓nn_61, ↓nn_62, ↓nn_65, ↓nn_66, p_bs, p_rq0, p_rq1, p_rz0, p_rz1, p_us, p_un, p_uj, ↓reduceIte, hj']
  refine ⟨_, rfl, fun c' hc' => by simp (disch := omega) only [p_uc], fun x' hx' => ?_, fun q' hq' => ?_⟩
  · simp (disch := omega) only [p_uj]
  · match q', hq' with
    | 0, _ => simp (disch := omega) only [p_uj, p_us, Nat.add_zero]; rfl
    | 1, _ => simp (disch := omega) only [p_uj, p_us]; rfl
    | 2, _ => simp (disch := omega) only [p_us]; rfl
/-- a row is copied element by element -/
theorem s_remember (hB' : p_B X') {k' : Nat} (hk' : k' ≤ 40) (h42' : I' 87 42 = Int32.ofNat k') : ∃ J', F_X12_remember 87 (I', X') = some ((), (J', X')) ∧ (∀ c', c' ≠ 87 → c' ≠ 103 → J' c' = I' c') ∧ (∀ j', j' ≠ 42 → J' 87 j' = I' 87 j') ∧ J' 87 42 = Int32.ofNat (min (k' + 1) 40) ∧ (k' < 40 → ∀ x', x' < 217 * k' → J' 103 x' = I' 103 x') ∧ (k' = 40 → ∀ x', x' < 217 * 39 → J' 103 x' = I' 103 (x' + 217)) ∧ (∀ i', i' < 217 → J' 103 (217 * (min k' 39) + i') = I' 100 i') := by
  have hput : ∀ (I0' : p_I) (q' : Nat), q' < 40 → I0' 87 42 = Int32.ofNat q' → ∃ J', J_X12_remember_50 87 (I0', X') = some ((), (J', X')) ∧ (∀ c', c' ≠ 87 → c' ≠ 103 → J' c' = I0' c') ∧ (∀ j', j' ≠ 42 → J' 87 j' = I0' 87 j') ∧ J' 87 42 = Int32.ofNat (q' + 1) ∧ (∀ x', x' < 217 * q' → J' 103 x' = I0' 103 x') ∧ (∀ i', i' < 217 → J' 103 (217 * q' + i') = I0' 100 i') := by
    intro I0' q' hq' g42'
    have hq217 : 217 * q' + 217 ≤ 8680 := by omega
    obtain ⟨z', h1', J', rfl, j1', j2', j3'⟩ := p_lp (fun z' => B_X12_remember_52 87 z'.1 z'.2) (fun i' z' => ∃ J', z' = (Int32.ofNat i', (J', X')) ∧ (∀ c', c' ≠ 103 → J' c' = I0' c') ∧ (∀ x', x' < 217 * q' → J' 103 x' = I0' 103 x') ∧ (∀ x', x' < i' → J' 103 (217 * q' + x') = I0' 100 x'))
      (fun z' => ∃ J', z' = (J', X') ∧ (∀ c', c' ≠ 103 → J' c' = I0' c') ∧ (∀ x', x' < 217 * q' → J' 103 x' = I0' 103 x') ∧ (∀ x', x' < 217 → J' 103 (217 * q' + x') = I0' 100 x')) 217 (by
        rintro i' z' hi' ⟨J', rfl, j1', j2', j3'⟩
        have l42' : J' 87 42 = Int32.ofNat q' := by rw [j1' 87 (by decide)]; exact g42'
        unfold B_X12_remember_52
        by_cases hlt' : i' < 217
        · left
          simp (disch := omega) only [↓ce_87 hB', rf_87 hB', ↓ce_100 hB', ↓ce_103 hB', ↓nn_31, ↓nn_33, ↓nn_89, ↓nn_90, ↓nn_91, ↓nn_92, ↓nn_93, ↓nn_94, ↓nn_95, ↓nn_96, ↓nn_97, ↓nn_98, ↓nn_99, ↓nn_100, ↓nn_101, ↓nn_102, ↓nn_103, ↓nn_104, ↓nn_105, ↓nn_106, ↓nn_107, ↓nn_108, p_bs, p_rq0, p_rq1, p_rz0, p_rz1, p_us, p_un, p_uj, ↓reduceIte, p_cm, hlt', l42', p_ar]
          refine ⟨_, rfl, True.intro, _, rfl, fun c' hc' => by rw [p_uc _ _ _ _ _ hc']; exact j1' c' hc', fun x' hx' => by rw [p_uj _ _ _ _ _ (by omega)]; exact j2' x' hx', fun x' hx' => ?_⟩
          by_cases e' : x' = i'
          · subst e'; rw [p_us, j1' 100 (by decide)]
          · rw [p_uj _ _ _ _ _ (by omega)]; exact j3' x' (by omega)
        · right
          have hi'' : i' = 217 := by omega
          subst hi''
          simp (disch := omega) only [p_bs, p_rq0, p_rq1, p_rz0, p_rz1, p_us, p_un, p_uj, ↓reduceIte, p_cm, Nat.lt_irrefl]
          exact ⟨_, rfl, J', rfl, j1', j2', j3'⟩) 217 0 q_fu (0, (I0', X')) (by omega) (by unfold q_fu; omega) ⟨I0', rfl, fun _ _ => rfl, fun _ _ => rfl, fun x' hx' => absurd hx' (by omega)⟩
    have l42' : J' 87 42 = Int32.ofNat q' := by rw [j1' 87 (by decide)]; exact g42'
    unfold J_X12_remember_50
    rw [h1']
    simp (disch := omega) only [↓ce_87 hB', rf_87 hB', ↓nn_31, ↓nn_33, ↓nn_89, ↓nn_90, ↓nn_91, ↓nn_92, ↓nn_93, ↓nn_94, ↓nn_95, ↓nn_96, ↓nn_97, ↓nn_98, ↓nn_99, ↓nn_100, ↓nn_101, ↓nn_102, ↓nn_103, ↓nn_104, ↓nn_105, ↓nn_106, ↓nn_107, ↓nn_108, p_bs, p_rq0, p_rq1, p_rz0, p_rz1, p_us, p_un, p_uj, ↓reduceIte, l42', p_ar]
    exact ⟨_, rfl, fun c' h1' h2' => by rw [p_uc _ _ _ _ _ h1']; exact j1' c' h2', fun j' hj' => by rw [p_uj _ _ _ _ _ hj', j1' 87 (by decide)], p_us _ _ _ _, fun x' hx' => by rw [p_uc _ _ _ _ _ (by decide)]; exact j2' x' hx', fun x' hx' => by rw [p_uc _ _ _ _ _ (by decide)]; exact j3' x' hx'⟩
  unfold F_X12_remember
  by_cases hk40' : k' = 40
  · subst hk40'
    obtain ⟨z', h1', J', rfl, j1', j2'⟩ := p_lp (fun z' => B_X12_remember_11 87 z'.1 z'.2) (fun i' z' => ∃ J', z' = (Int32.ofNat i', (J', X')) ∧ (∀ c', c' ≠ 103 → J' c' = I' c') ∧ (∀ x', x' < i' → J' 103 x' = I' 103 (x' + 217)) ∧ (∀ x', i' ≤ x' → J' 103 x' = I' 103 x'))
      (fun z' => ∃ J', z' = (J', X') ∧ (∀ c', c' ≠ 103 → J' c' = I' c') ∧ (∀ x', x' < 8463 → J' 103 x' = I' 103 (x' + 217))) 8463 (by
        rintro i' z' hi' ⟨J', rfl, j1', j2', j3'⟩
        have hl8' : (Int32.ofNat i' < 8463) = (i' < 8463) := p_lt i' 8463 (by omega) (by decide)
        unfold B_X12_remember_11
        by_cases hlt' : i' < 8463
        · left
          simp (disch := omega) only [↓ce_87 hB', rf_87 hB', ↓ce_103 hB', ↓nn_31, ↓nn_33, ↓nn_89, ↓nn_90, ↓nn_91, ↓nn_92, ↓nn_93, ↓nn_94, ↓nn_95, ↓nn_96, ↓nn_97, ↓nn_98, ↓nn_99, ↓nn_100, ↓nn_101, ↓nn_102, ↓nn_103, ↓nn_104, ↓nn_105, ↓nn_106, ↓nn_107, ↓nn_108, p_bs, p_rq0, p_rq1, p_rz0, p_rz1, p_us, p_un, p_uj, ↓reduceIte, hl8', hlt', p_ar, show (217 : Int32) = Int32.ofNat 217 from rfl]
          refine ⟨_, rfl, True.intro, _, rfl, fun c' hc' => by rw [p_uc _ _ _ _ _ hc']; exact j1' c' hc', fun x' hx' => ?_, fun x' hx' => by rw [p_uj _ _ _ _ _ (by omega)]; exact j3' x' (by omega)⟩
          by_cases e' : x' = i'
          · subst e'; rw [p_us]; exact j3' _ (by omega)
          · rw [p_uj _ _ _ _ _ e']; exact j2' x' (by omega)
        · right
          have hi'' : i' = 8463 := by omega
          subst hi''
          simp (disch := omega) only [p_bs, p_rq0, p_rq1, p_rz0, p_rz1, p_us, p_un, p_uj, ↓reduceIte, hl8', Nat.lt_irrefl]
          exact ⟨_, rfl, J', rfl, j1', j2'⟩) 8463 0 q_fu (0, (I', X')) (by omega) (by unfold q_fu; omega) ⟨I', rfl, fun _ _ => rfl, fun x' hx' => absurd hx' (by omega), fun _ _ => rfl⟩
    have l42' : J' 87 42 = Int32.ofNat 40 := by rw [j1' 87 (by decide)]; exact h42'
    have hI2' : q_u2 J' 87 42 (Int32.ofNat 39) 87 42 = Int32.ofNat 39 := p_us _ _ _ _
    obtain ⟨K', k1', k2', k3', k4', k5', k6'⟩ := hput (q_u2 J' 87 42 (Int32.ofNat 39)) 39 (by decide) hI2'
    simp (disch := omega) only [↓ce_87 hB', rf_87 hB', ↓nn_31, ↓nn_33, ↓nn_89, ↓nn_90, ↓nn_91, ↓nn_92, ↓nn_93, ↓nn_94, ↓nn_95, ↓nn_96, ↓nn_97, ↓nn_98, ↓nn_99, ↓nn_100, ↓nn_101, ↓nn_102, ↓nn_103, ↓nn_104, ↓nn_105, ↓nn_106, ↓nn_107, ↓nn_108, p_bs, p_rq0, p_rq1, p_rz0, p_rz1, p_us, p_un, p_uj, ↓reduceIte, h42', p_cm, h1', l42', show Int32.ofNat 40 - 1 = Int32.ofNat 39 from rfl, k1']
    refine ⟨K', rfl, fun c' h1' h2' => by rw [k2' c' h1' h2', p_uc _ _ _ _ _ h1']; exact j1' c' h2', fun j' hj' => by rw [k3' j' hj', p_uj _ _ _ _ _ hj', j1' 87 (by decide)], k4', fun h' => absurd h' (by omega), fun _ x' hx' => ?_, fun i' hi' => ?_⟩
    · rw [k5' x' hx', p_uc _ _ _ _ _ (by decide)]; exact j2' x' (by omega)
    · have := k6' i' hi'
      rw [p_uc _ _ _ _ _ (by decide), j1' 100 (by decide)] at this
      exact this
  · obtain ⟨K', k1', k2', k3', k4', k5', k6'⟩ := hput I' k' (by omega) h42'
    simp (disch := omega) only [↓ce_87 hB', rf_87 hB', ↓nn_31, ↓nn_33, ↓nn_89, ↓nn_90, ↓nn_91, ↓nn_92, ↓nn_93, ↓nn_94, ↓nn_95, ↓nn_96, ↓nn_97, ↓nn_98, ↓nn_99, ↓nn_100, ↓nn_101, ↓nn_102, ↓nn_103, ↓nn_104, ↓nn_105, ↓nn_106, ↓nn_107, ↓nn_108, p_bs, p_rq0, p_rq1, p_rz0, p_rz1, p_us, p_un, p_uj, ↓reduceIte, h42', p_cm, hk40', k1']
    refine ⟨K', rfl, k2', k3', by rw [k4', Nat.min_eq_left (by omega)], fun _ => k5', fun h' => (h' : False).elim, fun i' hi' => ?_⟩
    rw [Nat.min_eq_left (by omega)]
    exact k6' i' hi'
end PA'
