/-! years: both -/
section PA'
variable {A' : v_A} {X' : p_X} {I' : p_I}
theorem v_puY {H' : t_H} {L' : t_L} {I1' I2' K' : p_I} {D' : Nat} {s1' : Nat → Int32} (hay' : t_AY X' H' L' D' s1' I' I1') (hrm' : t_RM (q_u2 I1' 87 0 0) I2') (hsc' : p_sc X' = 65 ∨ 111 ≤ p_sc X') (e57' : K' 57 = I2' 57) (e58' : K' 58 = I2' 58) (e103 : K' 103 = I2' 103) (e42' : K' 87 42 = I2' 87 42) (k' m' : Nat) (h1' : k' ≤ 40) (h2' : m' < 40) (h3' : I' 57 6 = Int32.ofNat k') (h4' : I' 57 5 = Int32.ofNat m') (h5' : I' 87 42 = Int32.ofNat k') : t_PU I' K' k' m' := by
  obtain ⟨a1', a2', a4', a5', a6', a7'⟩ := hay'
  obtain ⟨b1', b2', b3'⟩ := hrm'
  have f' : ∀ c', c' ≠ 54 → c' ≠ 56 → c' ≠ 57 → c' ≠ 58 → c' ≠ 59 → c' ≠ 63 → c' ≠ 64 → c' < 109 → c' ≠ 65 → I1' c' = I' c' := fun c' z1' z2' z3' z4' z5' z6' z7' z8' z9' => a1' c' z1' z2' z3' z4' z5' z6' z7' z9' (by omega)
  have g87' : I1' 87 = I' 87 := f' 87 (by decide) (by decide) (by decide) (by decide) (by decide) (by decide) (by decide) (by decide) (by decide)
  have g100 : I1' 100 = I' 100 := f' 100 (by decide) (by decide) (by decide) (by decide) (by decide) (by decide) (by decide) (by decide) (by decide)
  have g103 : I1' 103 = I' 103 := f' 103 (by decide) (by decide) (by decide) (by decide) (by decide) (by decide) (by decide) (by decide) (by decide)
  obtain ⟨c1', c2', c3', c4'⟩ := b3' k' h1' (by rw [p_uj _ _ _ _ _ (by decide), g87']; exact h5')
  rw [p_uc _ _ _ _ _ (by decide), g103] at c2' c3'
  rw [p_uc _ _ _ _ _ (by decide), g100] at c4'
  obtain ⟨d1', d2', d3', d4'⟩ := a5' k' m' h1' h2' h3' h4'
  have f57' : I2' 57 = I1' 57 := by rw [b1' 57 (by decide) (by decide), p_uc _ _ _ _ _ (by decide)]
  have f58' : I2' 58 = I1' 58 := by rw [b1' 58 (by decide) (by decide), p_uc _ _ _ _ _ (by decide)]
  exact ⟨by rw [e57', f57']; exact d1', by rw [e57', f57']; exact d2', by rw [e42']; exact c1', by rw [e58', f58']; exact d3', by rw [e58', f58']; exact d4', by rw [e103]; exact c2', by rw [e103]; exact c3', by rw [e103]; exact c4'⟩
theorem v_doneY (h' : v_V A' I' X') (hzt' : A'.2.1 = true) {L' : t_L} {I1' I2' K' : p_I} {u' : Nat} {s1' : Nat → Int32} (hG' : t_GS A'.1 s1') (h0' : s1' 0 = Int32.ofNat A'.2.2.1) (hD' : A'.2.2.1 < 999) (hay' : t_AY X' A'.1 L' A'.2.2.1 s1' I' I1') (hrm' : t_RM (q_u2 I1' 87 0 0) I2') (hk' : ∀ c', c' ≠ 87 → c' ≠ 91 → c' ≠ 102 → c' ≠ 100 → K' c' = I2' c') (hk87' : ∀ j', ¬ (8 ≤ j' ∧ j' ≤ 14) → j' ≠ 17 → ¬ (37 ≤ j' ∧ j' ≤ 40) → K' 87 j' = I2' 87 j') (hrs' : t_RS (t_ps A'.1 L' s1') (K' 100)) (hlu' : t_LU (I2' 100) (K' 100) (t_e3 (t_ds A'.1 s1') (t_B (t_fd A'.1 s1')) (t_sm (t_ps A'.1 L' s1') 6))) : v_V (A'.1, A'.2.1, A'.2.2.1 + 1, A'.2.2.2) K' (p_T X' u') := by
  obtain ⟨L0', hLC', -⟩ := v_law h'
  have hsc' := p_scN hLC'
  have hpu' := fun k' m' => v_puY (K' := K') hay' hrm' hsc' (hk' 57 (by decide) (by decide) (by decide) (by decide)) (hk' 58 (by decide) (by decide) (by decide) (by decide)) (hk' 103 (by decide) (by decide) (by decide) (by decide)) (hk87' 42 (by decide) (by decide) (by decide)) k' m'
  obtain ⟨a1', a2', a4', a5', a6', a7'⟩ := hay'
  obtain ⟨b1', b2', b3'⟩ := hrm'
  have f' : ∀ c', c' ≠ 54 → c' ≠ 56 → c' ≠ 57 → c' ≠ 58 → c' ≠ 59 → c' ≠ 63 → c' ≠ 64 → c' < 109 → c' ≠ 65 → I1' c' = I' c' := fun c' z1' z2' z3' z4' z5' z6' z7' z8' z9' => a1' c' z1' z2' z3' z4' z5' z6' z7' z9' (by omega)
  have g87' : I1' 87 = I' 87 := f' 87 (by decide) (by decide) (by decide) (by decide) (by decide) (by decide) (by decide) (by decide) (by decide)
  have g2' : ∀ c', c' ≠ 87 → c' ≠ 91 → c' ≠ 102 → c' ≠ 103 → c' ≠ 100 → K' c' = I1' c' := fun c' z1' z2' z3' z4' z5' => by rw [hk' c' z1' z2' z3' z5', b1' c' z1' z4', p_uc _ _ _ _ _ z1']
  have g100 : I2' 100 = I' 100 := by rw [b1' 100 (by decide) (by decide), p_uc _ _ _ _ _ (by decide)]; exact f' 100 (by decide) (by decide) (by decide) (by decide) (by decide) (by decide) (by decide) (by decide) (by decide)
  rw [g100] at hlu'
  have g59' : K' 59 = I1' 59 := g2' 59 (by decide) (by decide) (by decide) (by decide) (by decide)
  have g54' : K' 54 = t_ps A'.1 L' s1' := by rw [g2' 54 (by decide) (by decide) (by decide) (by decide) (by decide), a2']
  obtain ⟨w1', w2', w3', w4', w5', w6'⟩ : v_R A'.1 (I' 54) (I' 100) (I' 59) A'.2.2.1 := h'.2.2.2.2.1.1 hzt'
  have hHW' := h'.2.2.2.1.2.2.2.1 hzt'
  have hlg' : ∀ x' q', q' < 3 → x' < A'.2.2.1 → A'.2.2.1 ≤ x' + 100 → K' 59 ((x' % 128) * 3 + q') = I' 59 ((x' % 128) * 3 + q') := fun x' q' hq' hx' hx2' => by
    rw [g59']
    exact a6' _ (by omega)
  have hps' := t_psW (L' := L') hHW' hG'.1 h0' (by omega)
  exact v_act (K' := K') h' hzt' (D'' := A'.2.2.1 + 1) (by omega) (by omega) u' (fun c' z1' z2' z3' z4' z5' z6' z7' z8' z9' z10' z11' z12' z13' z14' => by rw [g2' c' z10' z11' z13' z14' z12']; exact a1' c' z1' z2' z3' z4' z5' z6' z7' z8' z9') (fun j' z1' z2' => by rw [g2' 57 (by decide) (by decide) (by decide) (by decide) (by decide)]; exact a4' j' z1' z2') (fun j' z1' z2' z3' z4' z5' => by rw [hk87' j' z1' z2' z3', b2' j' z5', p_uj _ _ _ _ _ z4', g87']) hpu' hlg' (by
    rw [g54']
    refine ⟨hps'.1, hrs', hps'.2, by omega, fun g' hg' => by rw [t_ps13 g' hg']; exact hG'.2.1 g' hg', t_LGn w6' hlu' (fun q' hq' => ?_) hlg'⟩
    rw [g59', a7' q' hq'])
theorem t_AYmx {H' : t_H} {L' : t_L} {X'' : p_X} (hX' : p_sc X'' = p_sc X') {D' : Nat} {s1' : Nat → Int32} {C' C'' R' : p_I} (hac' : t_AY X' H' L' D' s1' C' C'') : t_AY X'' H' L' D' s1' (t_mx C' R') (t_mx C'' R') := by
  obtain ⟨a1', a2', a4', a5', a6', a7'⟩ := hac'
  have n' : ∀ (C' : p_I) c', c' < 87 → t_mx C' R' c' = C' c' := fun C' c' h' => t_mxC C' R' (by omega)
  refine ⟨fun c' h1' h2' h3' h4' h5' h6' h7' h8' h9' => ?_, ?_, ?_, ?_, ?_, ?_⟩
  · by_cases e' : 87 ≤ c' ∧ c' < 109
    · rw [t_mxR _ _ e', t_mxR _ _ e']
    · rw [t_mxC _ _ e', t_mxC _ _ e']
      exact a1' c' h1' h2' h3' h4' h5' h6' h7' h8' (by rw [← hX']; exact h9')
  · rw [n' C'' 54 (by decide)]; exact a2'
  · rw [n' C'' 57 (by decide), n' C' 57 (by decide)]; exact a4'
  · rw [n' C'' 57 (by decide), n' C' 57 (by decide), n' C'' 58 (by decide), n' C' 58 (by decide), n' C' 54 (by decide)]; exact a5'
  · rw [n' C'' 59 (by decide), n' C' 59 (by decide)]; exact a6'
  · rw [n' C'' 59 (by decide)]; exact a7'
theorem p_TLv (X' : p_X) (k' j' u' : Nat) (v' : Int64) : (p_T (p_L X' k' j' v') u').1 k' j' = v' := p_Lv X' k' j' v'
theorem t_LMTX {L' : t_L} {R' : p_I} {k' j' : Nat} {v' : Int64} (h' : ∀ x', t_LM L' (x', X'.2) R') (u' : Nat) : ∀ x', t_LM L' (x', (p_T (p_L X' k' j' v') u').2) R' := fun x' => t_LMT (h' x') u'
theorem t_SYX {H' : t_H} {L' : t_L} {dx' : Int64 → Int64} {dv' : Int64 → Int32 → Int32} {f' : Int32} {x0' : Int64} {D0' : Nat} {C' : Nat → p_I} {n' : Nat} (h' : t_SY X' H' L' dx' dv' f' x0' D0' I' C' n') (k' j' : Nat) (v' : Int64) : t_SY (p_L X' k' j' v') H' L' dx' dv' f' x0' D0' I' C' n' := h'
theorem s_yearsM {dx' : Int64 → Int64} {dv' : Int64 → Int32 → Int32} (hdM' : yq_HM dx' dv') (hdN' : yq_HN dv') (h' : v_V A' I' X') (hz' : A'.2.1 = true) (hHW' : t_HW A'.1) {L' : t_L} (hLM' : ∀ x', t_LM L' (x', X'.2) I') {f' : Int32} {x0' : Int64} {C' : Nat → p_I} {n' : Nat} (hSY' : t_SY X' A'.1 L' dx' dv' f' x0' A'.2.2.1 I' C' n') (hn' : n' ≤ 30) (hDn' : A'.2.2.1 + n' ≤ 999) (hf' : I' 87 35 = f') {R0' : p_I} (r1' : ∀ c', 87 ≤ c' → c' < 109 → c' ≠ 87 → R0' c' = I' c') (r2' : ∀ j', j' ≠ 0 → R0' 87 j' = I' 87 j') (r3' : R0' 87 0 = 0) (r4' : p_S R0') : ∃ R' u' x1', q_lp (fun z' => B_X12_years_49 87 (Int32.ofNat n') z'.1 z'.2) q_fu ((0 : Int32), (R0', p_L X' 87 43 x0')) = some (R', p_T (p_L X' 87 43 x1') u') ∧ (∀ c', ¬ (87 ≤ c' ∧ c' < 109) → R' c' = R0' c') ∧ v_V (A'.1, A'.2.1, A'.2.2.1 + n', A'.2.2.2) (t_mx (C' n') R') (p_T X' u') := by
  have hB' := h'.1
  have hng' := hHW'.2.2.2.1
  obtain ⟨s0', s1', s2'⟩ := hSY'
  have hM0' : t_HM A'.1 R0' := t_HMk h'.2.2.2.1.2.2.1 (r1' 92 (by decide) (by decide) (by decide)) (r1' 94 (by decide) (by decide) (by decide)) (r1' 96 (by decide) (by decide) (by decide)) (r2' 26 (by decide)) (r2' 27 (by decide))
  have hL0' : ∀ x', t_LM L' (x', X'.2) R0' := fun x' => t_LMk (hLM' x') (r2' 34 (by decide)) (r1' 89 (by decide) (by decide) (by decide)) (r1' 90 (by decide) (by decide) (by decide))
  obtain ⟨z', h1', R', u', rfl, j1', j2'⟩ := p_lp (fun z' => B_X12_years_49 87 (Int32.ofNat n') z'.1 z'.2) (fun i' z' => ∃ R' u', z' = (Int32.ofNat i', (R', p_T (p_L X' 87 43 (yq_yi A'.1 L' dx' dv' f' (I' 54) x0' i').2) u')) ∧ (∀ c', c' ≠ 87 → c' ≠ 91 → c' ≠ 100 → c' ≠ 102 → c' ≠ 103 → R' c' = R0' c') ∧ (∀ j', ¬ t_m87 j' → j' ≠ 42 → R' 87 j' = R0' 87 j') ∧ v_V (A'.1, A'.2.1, A'.2.2.1 + i', A'.2.2.2) (t_mx (C' i') R') (p_T X' u'))
    (fun z' => ∃ R' u', z' = (R', p_T (p_L X' 87 43 (yq_yi A'.1 L' dx' dv' f' (I' 54) x0' n').2) u') ∧ (∀ c', c' ≠ 87 → c' ≠ 91 → c' ≠ 100 → c' ≠ 102 → c' ≠ 103 → R' c' = R0' c') ∧ v_V (A'.1, A'.2.1, A'.2.2.1 + n', A'.2.2.2) (t_mx (C' n') R') (p_T X' u')) n' (by
      rintro i' z' hi' ⟨R', u', rfl, j1', j2', hv'⟩
      by_cases hlt' : i' < n'
      · left
        obtain ⟨fr', hKi', e54', e0'⟩ := s1' i' (by omega)
        have hay' := s2' i' hlt'
        have hvR' := hv'.2.2.2.2.1.1 hz'
        simp only at hvR'
        rw [t_mxC (C' i') R' (show ¬ (87 ≤ 54 ∧ 54 < 109) by decide), t_mxR (C' i') R' (show 87 ≤ 100 ∧ 100 < 109 by decide)] at hvR'
        obtain ⟨w1', w2', w3', w4', w5', w6'⟩ := hvR'
        have hGi' : t_GS A'.1 (C' i' 54) := ⟨w1', w5', _, w3', w4'⟩
        have hMR' : t_HM A'.1 R' := t_HMk hM0' (j1' 92 (by decide) (by decide) (by decide) (by decide) (by decide)) (j1' 94 (by decide) (by decide) (by decide) (by decide) (by decide)) (j1' 96 (by decide) (by decide) (by decide) (by decide) (by decide)) (j2' 26 (by omega) (by decide)) (j2' 27 (by omega) (by decide))
        have hLR' : ∀ x', t_LM L' (x', X'.2) R' := fun x' => t_LMk (hL0' x') (j2' 34 (by omega) (by decide)) (j1' 89 (by decide) (by decide) (by decide) (by decide) (by decide)) (j1' 90 (by decide) (by decide) (by decide) (by decide) (by decide))
        rw [e54'] at w2' hGi' w3'
        generalize hyi' : yq_yi A'.1 L' dx' dv' f' (I' 54) x0' i' = yi' at *
        obtain ⟨s', x'⟩ := yi'
        simp only at e54' hay' w2' hGi' w3'
        have hv'' : v_V (A'.1, A'.2.1, A'.2.2.1 + i', A'.2.2.2) (t_mx (C' i') R') (p_T (p_L X' 87 43 x') u') := by
          rw [← p_LT]
          exact v_VX hv' _ _ _
        have hBi' := p_BT (p_BL hB' 87 43 x') u'
        obtain ⟨J', g1', g2'⟩ := s_rem (I1' := R') hv'' (by rw [t_mxR (C' i') R' (show 87 ≤ 87 ∧ 87 < 109 by decide)])
        obtain ⟨K', u'', k1', k2', k3', k4', k5'⟩ := s_mY (X' := p_T (p_L X' 87 43 x') u') (L' := L') hdM' hdN' hBi' (fun c' hc' => by rw [j1' c' (by omega) (by omega) (by omega) (by omega) (by omega)]; exact r4' c' hc') hMR' hHW' hGi' w2' ⟨min (A'.2.2.1 + i') 60, by omega, w6'.1⟩ (t_LMTX hLR' u') (f' := f') (by rw [j2' 35 (by omega) (by decide), r2' 35 (by decide)]; exact hf') g1' g2' (D' := A'.2.2.1 + i') w3' (by omega) hlt' hn'
        rw [p_TLv] at k1' k4' k5'
        rw [p_LT, p_TT, p_LL] at k1'
        have hy2' : (yq_yi A'.1 L' dx' dv' f' (I' 54) x0' (i' + 1)).2 = (yq_yr A'.1 L' dx' dv' f' s' x').2 := by rw [yq_yi, hyi']
        have hGy' := yq_yrG (L' := L') (dx' := dx') hdN' hHW' hGi' f' x'
        have h0y := yq_yr0 (H' := A'.1) (L' := L') (dx' := dx') (dv' := dv') (s' := s') f' x'
        rw [w3'] at h0y
        rw [← hy2'] at k1'
        generalize (yq_yr A'.1 L' dx' dv' f' s' x').1 = sy' at *
        have mR' : ∀ (R' : p_I) c', 87 ≤ c' ∧ c' < 109 → t_mx (C' (i' + 1)) R' c' = R' c' := fun R' c' h' => t_mxR _ R' h'
        have R0'' : R' 87 0 = 0 := by rw [j2' 0 (by omega) (by decide)]; exact r3'
        have hd' := v_doneY (X' := p_T X' u') (I' := t_mx (C' i') R') (K' := t_mx (C' (i' + 1)) K') (u' := u'') hv' hz' hGy' h0y (show A'.2.2.1 + i' < 999 by omega) (t_AYmx (X'' := p_T X' u') (R' := R') (p_Tsc X' u') hay') (t_RMmx (C' := C' (i' + 1)) R0'' g2') (fun c' z1' z2' z3' z4' => by
          by_cases hr' : 87 ≤ c' ∧ c' < 109
          · rw [mR' _ _ hr', mR' _ _ hr']; exact k2' c' z1' z2' z3' z4'
          · rw [t_mxC _ _ hr', t_mxC _ _ hr']) (fun j' z1' z2' z3' => by
          rw [mR' _ 87 (by decide), mR' _ 87 (by decide)]
          exact k3' j' (by omega)) (by
          rw [mR' _ 100 (by decide)]; exact k4') (by
          rw [mR' _ 100 (by decide), mR' _ 100 (by decide)]; exact k5')
        rw [p_TT] at hd'
        have fJ' : ∀ c', c' ≠ 87 → c' ≠ 103 → J' c' = R' c' := g2'.1
        have fJ7' : ∀ j', j' ≠ 42 → J' 87 j' = R' 87 j' := g2'.2.1
        exact ⟨_, k1', hlt', K', u'', rfl, fun c' z1' z2' z3' z4' z5' => by rw [k2' c' z1' z2' z4' z3', fJ' c' z1' z5']; exact j1' c' z1' z2' z3' z4' z5', fun j' z1' z2' => by rw [k3' j' z1', fJ7' j' z2']; exact j2' j' z1' z2', hd'⟩
      · right
        have hi'' : i' = n' := by omega
        subst hi''
        have hlt8' : (Int32.ofNat i' < Int32.ofNat i') = False := by rw [p_lt i' i' (by omega) (by omega)]; simp
        unfold B_X12_years_49
        simp only [hlt8', ↓reduceIte]
        exact ⟨_, rfl, R', u', rfl, j1', hv'⟩) n' 0 q_fu (0, (R0', p_L X' 87 43 x0')) (by omega) (by unfold q_fu; omega) ⟨R0', (p_L X' 87 43 x0').2.1 87 5, by rw [show (yq_yi A'.1 L' dx' dv' f' (I' 54) x0' 0).2 = x0' from rfl, p_Ts]; rfl, fun _ _ _ _ _ _ => rfl, fun _ _ _ => rfl, by
          rw [s0', show (p_L X' 87 43 x0').2.1 87 5 = X'.2.1 87 5 from rfl, p_Ts]
          exact v_keep0 h' (t_SCmx r1' r2')⟩
  exact ⟨R', u', _, h1', fun c' hc' => j1' c' (by omega) (by omega) (by omega) (by omega) (by omega), j2'⟩
theorem m_years (h' : v_V A' I' X') (l' : Int32) (sd' : Int64) : ∃ r' I1' J' X0' X1' D', F_X11_years 36 l' sd' (I', X') = some (r', (I1', X0')) ∧ F_X12_years 87 l' sd' (I1', X0') = some (r', (J', X1')) ∧ v_V (A'.1, A'.2.1, D', A'.2.2.2) J' X1' := by
  obtain ⟨dx', dv', hdC', hdM', hdN'⟩ := yq_draws
  obtain ⟨L', hLX'⟩ := v_lawX h'
  have hsc' : p_sc X' = 65 ∨ 111 ≤ p_sc X' := p_scN (hLX' X'.1).1
  obtain ⟨hB', hS', hT', hH', hN', hP', hG', hC', hL', hLH', hW', hD', hF'⟩ := id h'
  have h18' := hH'.1
  have hin' : ∀ M' : q_Mem, F_X12_isIn l'.toInt64 1 30 M' = some (t_b (decide (1 ≤ l') && decide (l' ≤ 30))) := fun M' => s_isIn3 l' 1 30 M'
  rcases v_t h' with ⟨hz', hR', hHW'⟩ | hz'
  · rw [hz'] at h18'
    have e2' : decide ((1 : Int32) ≤ l') = !decide (l' < 1) := by
      rw [Bool.eq_iff_iff]
      simp only [decide_eq_true_eq, Bool.not_eq_true', decide_eq_false_iff_not]
      exact Int32.not_lt.symm
    have e3' : decide (l' ≤ 30) = !decide (30 < l') := by
      rw [Bool.eq_iff_iff]
      simp only [decide_eq_true_eq, Bool.not_eq_true', decide_eq_false_iff_not]
      exact Int32.not_lt.symm
    cases hr' : (decide ((1 : Int32) ≤ l') && decide (l' ≤ 30))
    · have key' : ∀ o' : Option (Int32 × q_Mem), (if l' < 1 then some ((-1 : Int32), (I', X')) else if 30 < l' then some ((-1 : Int32), (I', X')) else o') = some (-1, (I', X')) := fun o' => by
        rw [e2', e3'] at hr'
        by_cases c1' : l' < 1 <;> by_cases c2' : 30 < l' <;> simp_all
      refine ⟨-1, I', _, X', X', A'.2.2.1, ?_, ?_, v_thr h'⟩
      · unfold F_X11_years
        simp (disch := omega) only [↓ce_36 hB', rf_36 hB', ↓nn_38, ↓nn_40, ↓nn_45, ↓nn_50, ↓nn_52, ↓nn_53, ↓nn_54, ↓nn_56, ↓nn_58, ↓nn_64, ↓nn_67, ↓nn_68, ↓nn_84, p_bs, p_rq0, p_rq1, p_rz0, p_rz1, p_us, p_un, p_uj, ↓reduceIte, h18', t_b0, Bool.true_eq_false]
        exact key' _
      · unfold F_X12_years
        simp (disch := omega) only [↓ce_87 hB', rf_87 hB', ↓nn_31, ↓nn_33, ↓nn_89, ↓nn_90, ↓nn_91, ↓nn_92, ↓nn_93, ↓nn_94, ↓nn_95, ↓nn_96, ↓nn_97, ↓nn_98, ↓nn_99, ↓nn_100, ↓nn_101, ↓nn_102, ↓nn_103, ↓nn_104, ↓nn_105, ↓nn_106, ↓nn_107, ↓nn_108, p_bs, p_rq0, p_rq1, p_rz0, p_rz1, p_us, p_un, p_uj, ↓reduceIte, (v_thr h').2.2.2.1.2.2.1.2.2.2.2, v_ng0 hHW', hin', hr', t_b0]
    · obtain ⟨n', hn1', hn30', rfl⟩ : ∃ n', 1 ≤ n' ∧ n' ≤ 30 ∧ l' = Int32.ofNat n' := by
        rw [Bool.and_eq_true, decide_eq_true_eq, decide_eq_true_eq, Int32.le_iff_toInt_le, Int32.le_iff_toInt_le] at hr'
        have x1' : (1 : Int32).toInt = 1 := by decide
        have x30' : (30 : Int32).toInt = 30 := by decide
        rw [x1', x30'] at hr'
        refine ⟨l'.toInt.toNat, by omega, by omega, ?_⟩
        apply Int32.toInt_inj.mp
        rw [p_toI _ (by omega)]
        omega
      obtain ⟨w1', w2', w3', w4', w5', w6'⟩ := id hR'
      have w35' : I' 100 35 = Int32.ofNat A'.2.2.1 := by rw [w2'.1.2.2.2]; exact w3'
      have hl1' : (Int32.ofNat n' < 1) = False := by
        rw [show (1 : Int32) = Int32.ofNat 1 from rfl, p_lt n' 1 (by omega) (by omega)]
        apply eq_false; omega
      have hl30' : (30 < Int32.ofNat n') = False := by
        rw [show (30 : Int32) = Int32.ofNat 30 from rfl, p_lt 30 n' (by omega) (by omega)]
        apply eq_false; omega
      have hsum : Int32.ofNat A'.2.2.1 + Int32.ofNat n' = Int32.ofNat (A'.2.2.1 + n') := (Int32.ofNat_add _ _).symm
      have h999 : (999 < Int32.ofNat (A'.2.2.1 + n')) = (999 < A'.2.2.1 + n') := p_lt 999 _ (by decide) (by omega)
      by_cases hbig : 999 < A'.2.2.1 + n'
      · have w35'' : q_u2 I' 87 0 0 100 35 = Int32.ofNat A'.2.2.1 := by rw [p_uc _ _ _ _ _ (by decide)]; exact w35'
        refine ⟨-1, I', _, X', X', A'.2.2.1, ?_, ?_, v_thr h'⟩
        · unfold F_X11_years
          simp (disch := omega) only [↓ce_36 hB', rf_36 hB', ↓ce_53 hB', rf_53 hB', ↓ce_54 hB', ↓nn_38, ↓nn_40, ↓nn_45, ↓nn_50, ↓nn_52, ↓nn_53, ↓nn_54, ↓nn_55, ↓nn_56, ↓nn_58, ↓nn_64, ↓nn_67, ↓nn_68, ↓nn_84, p_bs, p_rq0, p_rq1, p_rz0, p_rz1, p_us, p_un, p_uj, ↓reduceIte, h18', t_b0, Bool.true_eq_false, hl1', hl30', w3', hsum, h999, hbig]
        · unfold F_X12_years
          simp (disch := omega) only [↓ce_87 hB', rf_87 hB', ↓ce_100 hB', ↓nn_31, ↓nn_33, ↓nn_89, ↓nn_90, ↓nn_91, ↓nn_92, ↓nn_93, ↓nn_94, ↓nn_95, ↓nn_96, ↓nn_97, ↓nn_98, ↓nn_99, ↓nn_100, ↓nn_101, ↓nn_102, ↓nn_103, ↓nn_104, ↓nn_105, ↓nn_106, ↓nn_107, ↓nn_108, p_bs, p_rq0, p_rq1, p_rz0, p_rz1, p_us, p_un, p_uj, ↓reduceIte, (v_thr h').2.2.2.1.2.2.1.2.2.2.2, v_ng0 hHW', hin', hr', t_b0, Bool.true_eq_false, w35'', hsum, h999, hbig]
      · obtain ⟨f', hf1', hf2', hf3'⟩ := hF'
        obtain ⟨k', m'', dd', p1', p2', p3', p4', -⟩ := id hP'
        have hK' : t_KY A'.1 L' X' (Int32.ofNat f') I' := ⟨hf2', hH'.2.1, fun x' => (hLX' x').1, v_gs h' hz', k', m'', p1', p2', p3', p4'⟩
        obtain ⟨C', c1', c2'⟩ := s_yearsC (I' := I') (L' := L') hdC' hdN' hB' hHW' hK' w3' hn30' (by omega) sd'
        have c1'' : q_lp (fun z' => B_X11_years_45 36 (Int32.ofNat n') z'.1 z'.2) q_fu ((0 : Int32), (I', (q_u2 X'.1 36 19 sd', X'.2))) = some (C' n', p_L X' 36 19 (yq_yi A'.1 L' dx' dv' (Int32.ofNat f') (I' 54) sd' n').2) := c1'
        generalize (yq_yi A'.1 L' dx' dv' (Int32.ofNat f') (I' 54) sd' n').2 = xe' at c1''
        obtain ⟨fr', hKn', e54', e0'⟩ := c2'.2.1 n' (Nat.le_refl _)
        have f1' : ∀ c', 87 ≤ c' → c' < 109 → C' n' c' = I' c' := fun c' z1' z2' => fr' c' (by omega) (by omega) (by omega) (by omega) (by omega) (by omega) (by omega) (by omega) (by omega)
        obtain ⟨R', u', xr', n1', n2', n3'⟩ := s_yearsM (X' := p_L X' 36 19 xe') hdM' hdN' (v_VX h' _ _ _) hz' hHW' (L' := L') (fun x' => (hLX' x').2) (t_SYX c2' 36 19 xe') hn30' (by omega) hf3' (R0' := q_u2 (C' n') 87 0 0) (fun c' z1' z2' z3' => by rw [p_uc _ _ _ _ _ z3']; exact f1' c' z1' z2') (fun j' hj' => by rw [p_uj _ _ _ _ _ hj', f1' 87 (by decide) (by decide)]) (p_us _ _ _ _) (fun c' hc' => by rw [p_uc _ _ _ _ _ (by omega), fr' c' (by omega) (by omega) (by omega) (by omega) (by omega) (by omega) (by omega) (by omega) (by omega)]; exact hS' c' hc')
        have n1'' : q_lp (fun z' => B_X12_years_49 87 (Int32.ofNat n') z'.1 z'.2) q_fu ((0 : Int32), (q_u2 (C' n') 87 0 0, (q_u2 (p_L X' 36 19 xe').1 87 43 sd', (p_L X' 36 19 xe').2))) = _ := n1'
        have hBe' := p_BL hB' 36 19 xe'
        have h27' : q_u2 (C' n') 87 0 0 87 27 = Int32.ofNat (t_ng A'.1) := by rw [p_uj _ _ _ _ _ (by decide), f1' 87 (by decide) (by decide)]; exact hH'.2.2.1.2.2.2.2
        have w35'' : q_u2 (C' n') 87 0 0 100 35 = Int32.ofNat A'.2.2.1 := by rw [p_uc _ _ _ _ _ (by decide), f1' 100 (by decide) (by decide)]; exact w35'
        have hBr' := p_BT (p_BL hBe' 87 43 xr') u'
        have r35' : R' 100 35 = Int32.ofNat (A'.2.2.1 + n') := by
          have hvR' := n3'.2.2.2.2.1.1 hz'
          simp only at hvR'
          rw [t_mxC (C' n') R' (show ¬ (87 ≤ 54 ∧ 54 < 109) by decide), t_mxR (C' n') R' (show 87 ≤ 100 ∧ 100 < 109 by decide)] at hvR'
          rw [hvR'.2.1.1.2.2.2]
          exact hvR'.2.2.1
        refine ⟨Int32.ofNat (A'.2.2.1 + n'), C' n', R', p_L X' 36 19 xe', p_T (p_L (p_L X' 36 19 xe') 87 43 xr') u', A'.2.2.1 + n', ?_, ?_, ?_⟩
        · unfold F_X11_years
          simp (disch := omega) only [↓ce_36 hB', rf_36 hB', ↓ce_53 hB', rf_53 hB', ↓ce_54 hB', ↓nn_38, ↓nn_40, ↓nn_45, ↓nn_50, ↓nn_52, ↓nn_53, ↓nn_54, ↓nn_55, ↓nn_56, ↓nn_58, ↓nn_64, ↓nn_67, ↓nn_68, ↓nn_84, p_bs, p_rq0, p_rq1, p_rz0, p_rz1, p_us, p_un, p_uj, ↓reduceIte, h18', t_b0, Bool.true_eq_false, hl1', hl30', w3', hsum, h999, hbig, c1'']
          have hB' := hBe'
          simp (disch := omega) only [↓ce_36 hB', rf_36 hB', ↓ce_53 hB', rf_53 hB', ↓ce_54 hB', ↓nn_38, ↓nn_40, ↓nn_45, ↓nn_50, ↓nn_52, ↓nn_53, ↓nn_54, ↓nn_55, ↓nn_56, ↓nn_58, ↓nn_64, ↓nn_67, ↓nn_68, ↓nn_84, p_bs, p_rq0, p_rq1, p_rz0, p_rz1, p_us, p_un, p_uj, ↓reduceIte, e0']
        · unfold F_X12_years
          have hB' := hBe'
          simp (disch := omega) only [↓ce_87 hB', rf_87 hB', ↓ce_100 hB', ↓nn_31, ↓nn_33, ↓nn_89, ↓nn_90, ↓nn_91, ↓nn_92, ↓nn_93, ↓nn_94, ↓nn_95, ↓nn_96, ↓nn_97, ↓nn_98, ↓nn_99, ↓nn_100, ↓nn_101, ↓nn_102, ↓nn_103, ↓nn_104, ↓nn_105, ↓nn_106, ↓nn_107, ↓nn_108, p_bs, p_rq0, p_rq1, p_rz0, p_rz1, p_us, p_un, p_uj, ↓reduceIte, h27', v_ng0 hHW', hin', hr', t_b0, Bool.true_eq_false, w35'', hsum, h999, hbig, n1'']
          have hB' := hBr'
          simp (disch := omega) only [↓ce_87 hB', rf_87 hB', ↓ce_100 hB', ↓nn_31, ↓nn_33, ↓nn_89, ↓nn_90, ↓nn_91, ↓nn_92, ↓nn_93, ↓nn_94, ↓nn_95, ↓nn_96, ↓nn_97, ↓nn_98, ↓nn_99, ↓nn_100, ↓nn_101, ↓nn_102, ↓nn_103, ↓nn_104, ↓nn_105, ↓nn_106, ↓nn_107, ↓nn_108, p_bs, p_rq0, p_rq1, p_rz0, p_rz1, p_us, p_un, p_uj, ↓reduceIte, r35']
        · have n3'' : v_V (A'.1, A'.2.1, A'.2.2.1 + n', A'.2.2.2) (t_mx (C' n') R') (p_T (p_L (p_L X' 36 19 xe') 87 43 xr') u') := by
            rw [← p_LT]
            exact v_VX n3' _ _ _
          refine v_keep0 n3'' ⟨fun c' z1' z2' => ?_, ?_, fun j' z1' z2' z3' z4' z5' z6' z7' => ?_, fun j' _ => ?_, fun j' _ => ?_, fun c' z1' z2' z3' z4' => ?_⟩
          · by_cases hc' : 87 ≤ c' ∧ c' < 109
            · rw [t_mxR _ _ hc']
            · rw [t_mxC _ _ hc', n2' c' hc', p_uc _ _ _ _ _ (by omega)]
          · rw [t_mxC _ _ (by decide), n2' 37 (by decide), p_uc _ _ _ _ _ (by omega)]
          · rw [t_mxR _ _ (by decide)]
          · rw [t_mxR _ _ (by decide)]
          · rw [t_mxR _ _ (by decide)]
          · rw [t_mxC _ _ (by omega), n2' c' (by omega), p_uc _ _ _ _ _ (by omega)]
  · rw [hz'] at h18'
    refine ⟨-1, I', _, X', X', A'.2.2.1, ?_, ?_, v_thr h'⟩
    · unfold F_X11_years
      simp (disch := omega) only [↓ce_36 hB', rf_36 hB', ↓nn_38, ↓nn_40, ↓nn_45, ↓nn_50, ↓nn_52, ↓nn_53, ↓nn_54, ↓nn_56, ↓nn_58, ↓nn_64, ↓nn_67, ↓nn_68, ↓nn_84, p_bs, p_rq0, p_rq1, p_rz0, p_rz1, p_us, p_un, p_uj, ↓reduceIte, h18', t_b0]
    · have := (v_thr h').2.2.2.1.2.2.1.2.2.2.2
      rw [(v_zf h' hz').2] at this
      unfold F_X12_years
      simp (disch := omega) only [↓ce_87 hB', rf_87 hB', ↓nn_31, ↓nn_33, ↓nn_89, ↓nn_90, ↓nn_91, ↓nn_92, ↓nn_93, ↓nn_94, ↓nn_95, ↓nn_96, ↓nn_97, ↓nn_98, ↓nn_99, ↓nn_100, ↓nn_101, ↓nn_102, ↓nn_103, ↓nn_104, ↓nn_105, ↓nn_106, ↓nn_107, ↓nn_108, p_bs, p_rq0, p_rq1, p_rz0, p_rz1, p_us, p_un, p_uj, ↓reduceIte, this, show Int32.ofNat 0 = 0 from rfl]
end PA'
