section PD'
variable {X' : p_X} {I' : p_I} {H' : t_H} {k' : Nat}
theorem t_ckN (hn' : t_nd H' ≤ 5) (h0' : 0 < t_nd H') {s' : Nat → Int32} (hW' : t_WF H' s') : ∃ d', t_ck H' s' = Int32.ofNat d' ∧ d' < t_nd H' := by
  obtain ⟨⟨D', hD', hD''⟩, -, hc', -⟩ := hW'
  unfold t_ck
  rcases hc' with hc' | ⟨d', hc', hd'⟩
  · rw [if_pos hc', hD', t_mod D' _ (by omega) h0' hn']
    exact ⟨_, rfl, Nat.mod_lt _ h0'⟩
  · rw [hc', if_neg (by rw [p_ofN1 d' (by omega)]; exact id)]
    exact ⟨d', rfl, hd'⟩
theorem t_dsN (hn' : t_nd H' ≤ 5) (h0' : 0 < t_nd H') {s' : Nat → Int32} (hW' : t_WF H' s') : t_ds H' s' = -1 ∨ ∃ d', t_ds H' s' = Int32.ofNat d' ∧ d' < t_nd H' := by
  unfold t_ds
  split
  · exact .inr (t_ckN hn' h0' hW')
  · split
    · exact .inl rfl
    · obtain ⟨n', h1', -, h2'⟩ := p_a3 (s' 0 - s' 1)
      right
      unfold t_x4
      rw [h2']
      exact hW'.2.2.2.1 n' h1'
theorem t_pnN (s' : Nat → Int32) : ∃ n', t_pn H' s' = Int32.ofNat n' ∧ n' ≤ 6 := ⟨_, t_bcB _, t_cnL _ 6⟩
theorem t_svN {s' : Nat → Int32} (hW' : t_WF H' s') : ∃ n', t_sv H' s' = Int32.ofNat n' ∧ n' ≤ 6 := by
  unfold t_sv
  split
  · exact t_pnN s'
  · split
    · exact ⟨0, rfl, by omega⟩
    · obtain ⟨n', h1', -, h2'⟩ := p_a3 (s' 0 - s' 1)
      unfold t_x4
      rw [h2']
      exact hW'.2.2.2.2.1 n' h1'
theorem s_serve82 (hB' : p_B X') (hH' : t_HI H' I') (l2' : Int32) (hd' : I' 63 7 = -1 ∨ ∃ d', I' 63 7 = Int32.ofNat d' ∧ d' < 5) :
    J_X1_serve_82 63 l2' (I', X') = some ((), q_u2 I' 63 8 (if I' 63 7 = -1 then 0 else q_mx 0 (t_hd H' ((I' 63 7).toNatClampNeg * 3) - t_hr H' 1 * l2')), X') := by
  unfold J_X1_serve_82
  simp (disch := omega) only [↓ce_63 hB', rf_63 hB', ↓nn_40, ↓nn_65, ↓nn_66, p_bs, p_rq0, p_rq1, p_rz0, p_rz1, p_us, p_un, p_uj, ↓reduceIte, J_X1_serve_123]
  rcases hd' with hd' | ⟨d', hd', hd''⟩
  · simp only [hd', ↓reduceIte]
  · have h1' := s_ofDish hB' hH' d' 0 hd'' (by omega)
    simp (disch := omega) only [↓ce_63 hB', rf_63 hB', ↓ce_39 hB', rf_39 hB', ↓ce_40 hB', ↓nn_40, ↓nn_41, ↓nn_42, ↓nn_43, ↓nn_44, ↓nn_65, ↓nn_66, p_bs, p_rq0, p_rq1, p_rz0, p_rz1, p_us, p_un, p_uj, ↓reduceIte, J_X1_serve_123, hd', p_ofN1, p_nat, show F_X3_ofDish 39 (Int32.ofNat d') 0 (I', X') = some (t_hd H' (d' * 3 + 0)) from h1', hH'.1, Nat.add_zero]
theorem s_serve (hB' : p_B X') (hH' : t_HI H' I') (hk' : t_SK k') (hW' : t_WF H' (I' (k' + 1))) (h0' : 0 < t_nd H') (h5' : I' 63 5 = t_ck H' (I' (k' + 1))) (h6' : I' 63 6 = t_pn H' (I' (k' + 1))) :
    ∃ I'', F_X1_serve 63 k' (I', X') = some ((), I'', X') ∧ (∀ c', c' ≠ 63 → I'' c' = I' c') ∧ (∀ j', j' ≠ 7 → j' ≠ 8 → j' ≠ 9 → I'' 63 j' = I' 63 j') ∧ I'' 63 7 = t_ds H' (I' (k' + 1)) ∧ I'' 63 8 = t_wm H' (I' (k' + 1)) ∧ I'' 63 9 = t_sv H' (I' (k' + 1)) := by
  have hn' : t_nd H' ≤ 5 := hH'.2.2.2.2.2.2.1
  obtain ⟨n', a1', a2', a3'⟩ := p_a3 (I' (k' + 1) 0 - I' (k' + 1) 1)
  have hds' := t_dsN hn' h0' hW'
  have hd2' : t_ds H' (I' (k' + 1)) = -1 ∨ ∃ d', t_ds H' (I' (k' + 1)) = Int32.ofNat d' ∧ d' < 5 := hds'.imp id (fun ⟨d', h1', h2'⟩ => ⟨d', h1', by omega⟩)
  unfold F_X1_serve
  simp (disch := omega) only [↓ce_63 hB', rf_63 hB', ↓nn_40, ↓nn_65, ↓nn_66, p_bs, p_rq0, p_rq1, p_rz0, p_rz1, p_us, p_un, p_uj, ↓reduceIte, p_st hk' hB']
  by_cases c1' : I' (k' + 1) 1 = 0
  · have e1' : t_ds H' (I' (k' + 1)) = t_ck H' (I' (k' + 1)) := by simp [t_ds, c1']
    have e2' : t_sv H' (I' (k' + 1)) = t_pn H' (I' (k' + 1)) := by simp [t_sv, c1']
    simp only [c1', ↓reduceIte]
    rw [s_serve82 hB' (t_HIk hH' (fun c' h1' h2' => by simp only [p_uc _ _ _ _ _ (show c' ≠ 63 by omega)])) _ (by simp (disch := omega) only [p_us, p_uj]; rw [h5', ← e1']; exact hd2')]
    refine ⟨_, rfl, ?_, ?_, ?_, ?_, ?_⟩
    · intro c' hc'; simp only [p_uc _ _ _ _ _ hc']
    · intro j' h1' h2' h3'; simp (disch := omega) only [p_uj]
    · simp (disch := omega) only [p_us, p_uj]; rw [e1', h5']
    · simp (disch := omega) only [p_us, p_uj]; rw [h5', ← e1', t_wm, c1']
    · simp (disch := omega) only [p_us, p_uj]; rw [e2', h6']
  · by_cases c2' : I' (k' + 1) 0 - I' (k' + 1) 1 < 0
    · have e1' : t_ds H' (I' (k' + 1)) = -1 := by simp [t_ds, c1', c2']
      have e2' : t_sv H' (I' (k' + 1)) = 0 := by simp [t_sv, c1', c2']
      simp only [c1', c2', ↓reduceIte]
      rw [s_serve82 hB' (t_HIk hH' (fun c' h1' h2' => by simp only [p_uc _ _ _ _ _ (show c' ≠ 63 by omega)])) _ (by simp (disch := omega) only [p_us, p_uj]; exact .inl trivial)]
      refine ⟨_, rfl, ?_, ?_, ?_, ?_, ?_⟩
      · intro c' hc'; simp only [p_uc _ _ _ _ _ hc']
      · intro j' h1' h2' h3'; simp (disch := omega) only [p_uj]
      · simp (disch := omega) only [p_us, p_uj]; rw [e1']
      · simp (disch := omega) only [p_us, p_uj]; rw [t_wm, e1']; simp
      · simp (disch := omega) only [p_us, p_uj]; rw [e2']
    · have e1' : t_ds H' (I' (k' + 1)) = I' (k' + 1) (5 + n') := by simp [t_ds, c1', c2', t_x4, a3']
      have e2' : t_sv H' (I' (k' + 1)) = I' (k' + 1) (9 + n') := by simp [t_sv, c1', c2', t_x4, a3']
      simp only [c1', c2', ↓reduceIte, a2']
      simp (disch := omega) only [↓ce_63 hB', rf_63 hB', ↓nn_40, ↓nn_65, ↓nn_66, p_bs, p_rq0, p_rq1, p_rz0, p_rz1, p_us, p_un, p_uj, ↓reduceIte, p_st hk' hB', p_ar]
      rw [s_serve82 hB' (t_HIk hH' (fun c' h1' h2' => by simp only [p_uc _ _ _ _ _ (show c' ≠ 63 by omega)])) _ (by simp (disch := omega) only [p_us, p_uj]; rw [← e1']; exact hd2')]
      refine ⟨_, rfl, ?_, ?_, ?_, ?_, ?_⟩
      · intro c' hc'; simp only [p_uc _ _ _ _ _ hc']
      · intro j' h1' h2' h3'; simp (disch := omega) only [p_uj]
      · simp (disch := omega) only [p_us, p_uj]; rw [e1']
      · simp (disch := omega) only [p_us, p_uj]; rw [t_wm, e1']
      · simp (disch := omega) only [p_us, p_uj]; rw [e2']
end PD'
