/-! a year's day: the class -/
def t_AY (X' : p_X) (H' : t_H) (L' : t_L) (D' : Nat) (s1' : Nat → Int32) (I' J' : p_I) : Prop := (∀ c', c' ≠ 54 → c' ≠ 56 → c' ≠ 57 → c' ≠ 58 → c' ≠ 59 → c' ≠ 63 → c' ≠ 64 → c' ≠ 65 → c' ≠ p_sc X' → J' c' = I' c') ∧ J' 54 = t_ps H' L' s1' ∧ (∀ j', j' ≠ 5 → j' ≠ 6 → J' 57 j' = I' 57 j') ∧ (∀ k' m', k' ≤ 40 → m' < 40 → I' 57 6 = Int32.ofNat k' → I' 57 5 = Int32.ofNat m' → J' 57 5 = Int32.ofNat (if m' + 1 < 40 then m' + 1 else 0) ∧ J' 57 6 = Int32.ofNat (min (k' + 1) 40) ∧ (∀ x', ¬ (m' * 31 ≤ x' ∧ x' < m' * 31 + 31) → J' 58 x' = I' 58 x') ∧ (∀ i', i' < 31 → J' 58 (m' * 31 + i') = I' 54 i')) ∧ (∀ x', ¬ (D' % 128 * 3 ≤ x' ∧ x' < D' % 128 * 3 + 3) → J' 59 x' = I' 59 x') ∧ (∀ q', q' < 3 → J' 59 (D' % 128 * 3 + q') = t_e3 (t_ds H' s1') (t_B (t_fd H' s1')) (t_sm (t_ps H' L' s1') 6) q')
def t_KY (H' : t_H) (L' : t_L) (X' : p_X) (f' : Int32) (I' : p_I) : Prop := I' 36 17 = f' ∧ t_HI H' I' ∧ (∀ x', t_LC L' (x', X'.2) I') ∧ t_GS H' (I' 54) ∧ ∃ k' m', k' ≤ 40 ∧ m' < 40 ∧ I' 57 6 = Int32.ofNat k' ∧ I' 57 5 = Int32.ofNat m'
noncomputable def yq_yi (H' : t_H) (L' : t_L) (dx' : Int64 → Int64) (dv' : Int64 → Int32 → Int32) (f' : Int32) (s' : Nat → Int32) (x' : Int64) : Nat → (Nat → Int32) × Int64
  | 0 => (s', x')
  | i' + 1 => (t_ps H' L' (yq_yr H' L' dx' dv' f' (yq_yi H' L' dx' dv' f' s' x' i').1 (yq_yi H' L' dx' dv' f' s' x' i').2).1, (yq_yr H' L' dx' dv' f' (yq_yi H' L' dx' dv' f' s' x' i').1 (yq_yi H' L' dx' dv' f' s' x' i').2).2)
def t_SY (X' : p_X) (H' : t_H) (L' : t_L) (dx' : Int64 → Int64) (dv' : Int64 → Int32 → Int32) (f' : Int32) (x0' : Int64) (D0' : Nat) (I' : p_I) (C' : Nat → p_I) (n' : Nat) : Prop := C' 0 = I' ∧ (∀ j', j' ≤ n' → (∀ c', c' ≠ 54 → c' ≠ 56 → c' ≠ 57 → c' ≠ 58 → c' ≠ 59 → c' ≠ 63 → c' ≠ 64 → c' ≠ 65 → c' ≠ p_sc X' → C' j' c' = I' c') ∧ t_KY H' L' X' f' (C' j') ∧ C' j' 54 = (yq_yi H' L' dx' dv' f' (I' 54) x0' j').1 ∧ C' j' 54 0 = Int32.ofNat (D0' + j')) ∧ ∀ j', j' < n' → t_AY X' H' L' (D0' + j') (yq_yr H' L' dx' dv' f' (yq_yi H' L' dx' dv' f' (I' 54) x0' j').1 (yq_yi H' L' dx' dv' f' (I' 54) x0' j').2).1 (C' j') (C' (j' + 1))
section PD'
variable {X' : p_X} {I' : p_I} {H' : t_H} {L' : t_L} {s' : Nat → Int32} {dx' : Int64 → Int64} {dv' : Int64 → Int32 → Int32}
theorem t_AYX {D' : Nat} {s1' : Nat → Int32} {J' : p_I} {k' j' : Nat} {v' : Int64} (h' : t_AY (p_L X' k' j' v') H' L' D' s1' I' J') : t_AY X' H' L' D' s1' I' J' := h'
theorem t_KYX {f' : Int32} (h' : t_KY H' L' X' f' I') (k' j' : Nat) (v' : Int64) : t_KY H' L' (p_L X' k' j' v') f' I' := h'
theorem yq_yr0 (f' : Int32) (x' : Int64) : (yq_yr H' L' dx' dv' f' s' x').1 0 = s' 0 := by
  have h1' : yq_y1 H' L' dx' dv' f' s' x' 0 = s' 0 := by
    unfold yq_y1
    split
    · exact p_vn _ _ _ _ (by decide)
    · rfl
  unfold yq_yr yq_y2
  have h3' : ∀ a', va_up (yq_y1 H' L' dx' dv' f' s' x') 3 a' 0 = s' 0 := fun a' => (p_vn _ 3 _ 0 (by decide)).trans h1'
  split
  · exact h3' (dv' (dx' (dx' x')) (Int32.ofNat (t_nd H')))
  · show yq_y3 H' L' _ _ 0 = _
    unfold yq_y3
    split
    · exact (p_vn _ _ _ _ (by omega)).trans (h3' _)
    · exact h3' _
theorem yq_yrG (hdN' : yq_HN dv') (hW' : t_HW H') (h' : t_GS H' s') (f' : Int32) (x' : Int64) : t_GS H' (yq_yr H' L' dx' dv' f' s' x').1 := yq_y2G hdN' hW' (yq_y1G hW' h' f' x') _
theorem s_yearC (hdC' : yq_HC dx' dv') (hdN' : yq_HN dv') (hB' : p_B X') (hW' : t_HW H') {f' : Int32} (hK' : t_KY H' L' X' f' I') {D' : Nat} (hD' : I' 54 0 = Int32.ofNat D') (hD'' : D' < 999) {n' i' : Nat} (hlt' : i' < n') (hn' : n' ≤ 30) : ∃ J', B_X11_years_45 36 (Int32.ofNat n') (Int32.ofNat i') (I', X') = some (.inl (Int32.ofNat (i' + 1), (J', p_L X' 36 19 (yq_yr H' L' dx' dv' f' (I' 54) (X'.1 36 19)).2))) ∧ t_AY X' H' L' D' (yq_yr H' L' dx' dv' f' (I' 54) (X'.1 36 19)).1 I' J' := by
  obtain ⟨h17', hHI', hLC', hG', k', m', q1', q2', q3', q4'⟩ := hK'
  have hsc' : p_sc X' = 65 ∨ 111 ≤ p_sc X' := p_scN (hLC' X'.1)
  obtain ⟨J1', a1', a2', a3'⟩ := s_copyFrom (I' := I') (k1' := 55) (k2' := 53) hB' (by omega) (by omega)
  have a2'' : ∀ c', c' ≠ 56 → J1' c' = I' c' := a2'
  have a3'' : ∀ j', j' < 31 → J1' 56 j' = I' 54 j' := a3'
  have e54' : J1' 54 = I' 54 := a2'' 54 (by decide)
  have e36' : J1' 36 = I' 36 := a2'' 36 (by decide)
  obtain ⟨J2', b1', b2', b3'⟩ := s_meet (I' := J1') (L' := L') hdC' hdN' hB' (t_HIk hHI' (fun c' h1' h2' => a2'' c' (by omega))) hW' (fun x' => t_LCk (hLC' x') (fun c' h1' h2' => a2'' c' (by omega))) (by rw [e54']; exact hG')
  rw [e54', e36', h17'] at b1' b3'
  have hGy' := yq_yrG (L' := L') (dx' := dx') hdN' hW' hG' f' (X'.1 36 19)
  have h0y := yq_yr0 (H' := H') (L' := L') (dx' := dx') (dv' := dv') (s' := I' 54) f' (X'.1 36 19)
  generalize yq_yr H' L' dx' dv' f' (I' 54) (X'.1 36 19) = yr' at *
  obtain ⟨s1', x''⟩ := yr'
  simp only at b1' b3' hGy' h0y ⊢
  have hB1' := p_BL hB' 36 19 x''
  obtain ⟨J3', c1', c2', c3', c4'⟩ := s_pass (X' := p_L X' 36 19 x'') (I' := J2') (k' := 53) (L' := L') hB1' (t_HIk hHI' (fun c' h1' h2' => by rw [b2' c' (by omega) (by omega) (by omega) (by omega) (by omega)]; exact a2'' c' (by omega))) hW' (by omega) (by show t_WF H' (J2' 54); rw [b3']; exact hGy'.1) (t_LCk (t_LCX hLC' 36 19 x'') (fun c' h1' h2' => by
    rw [p_scL] at h2'
    rw [b2' c' (by omega) (by omega) (by omega) h2' (by omega)]; exact a2'' c' (by omega)))
  rw [p_scL] at c2'
  have c2'' : ∀ c', c' ≠ 63 → c' ≠ 64 → c' ≠ 65 → c' ≠ p_sc X' → c' ≠ 54 → J3' c' = J2' c' := c2'
  have c3'' : t_EV H' s1' J3' := by rw [← b3']; exact c3'
  have c4'' : J3' 54 = t_ps H' L' s1' := by rw [← b3']; exact c4'
  have k2' : ∀ c', c' ≠ 54 → c' ≠ 56 → c' ≠ 63 → c' ≠ 64 → c' ≠ 65 → c' ≠ p_sc X' → J3' c' = I' c' := fun c' h1' h2' h3' h4' h5' h6' => by rw [c2'' c' h3' h4' h5' h6' h1', b2' c' h3' h4' h5' h6' h1']; exact a2'' c' h2'
  have e57' : J3' 57 = I' 57 := k2' 57 (by decide) (by decide) (by decide) (by decide) (by decide) (by omega)
  have e56' : J3' 56 = J1' 56 := by rw [c2'' 56 (by decide) (by decide) (by decide) (by omega) (by decide), b2' 56 (by decide) (by decide) (by decide) (by omega) (by decide)]
  have e58' : J3' 58 = I' 58 := k2' 58 (by decide) (by decide) (by decide) (by decide) (by decide) (by omega)
  have e59' : J3' 59 = I' 59 := k2' 59 (by decide) (by decide) (by decide) (by decide) (by decide) (by omega)
  obtain ⟨J4', d1', d2', d3', d4', d5', d6', d7'⟩ := s_keepAct (X' := p_L X' 36 19 x'') (I' := J3') (k' := k') (m' := m') hB1' q1' q2' (by rw [e57']; exact q3') (by rw [e57']; exact q4')
  obtain ⟨v1', v2', v3', v4', v5', v6', v7', v8', v9'⟩ := c3''
  have hps' := t_psW (L' := L') hW' hGy'.1 (D' := D') (by rw [h0y]; exact hD') (by omega)
  have hJ54' : J4' 54 = t_ps H' L' s1' := by rw [d2' 54 (by decide) (by decide)]; exact c4''
  obtain ⟨J5', g1', g2', g3', g4'⟩ := s_writeLog (X' := p_L X' 36 19 x'') (I' := J4') (D' := D') hB1' (by omega) (by rw [hJ54']; exact hps'.2)
  have e63' : J4' 63 = J3' 63 := d2' 63 (by decide) (by decide)
  have hlt8' : (Int32.ofNat i' < Int32.ofNat n') = True := by rw [p_lt i' n' (by omega) (by omega)]; exact eq_true hlt'
  refine ⟨J5', ?_, fun c' h1' h2' h3' h4' h5' h6' h7' h8' h9' => by rw [g2' c' h5', d2' c' h3' h4']; exact k2' c' h1' h2' h6' h7' h8' h9', by rw [g2' 54 (by decide)]; exact hJ54', fun j' h1' h2' => by rw [g2' 57 (by decide), d3' j' h1' h2', e57'], fun k'' m'' h1' h2' h3' h4' => ?_, fun x' hx' => by rw [g3' x' hx', d2' 59 (by decide) (by decide), e59'], fun q' hq' => by rw [g4' q' hq', e63', v4', v7', hJ54']⟩
  · unfold B_X11_years_45
    simp (disch := omega) only [↓ce_36 hB', rf_36 hB', ↓ce_53 hB', rf_53 hB', ↓ce_55 hB', rf_55 hB', ↓nn_38, ↓nn_40, ↓nn_45, ↓nn_50, ↓nn_52, ↓nn_53, ↓nn_54, ↓nn_55, ↓nn_56, ↓nn_57, ↓nn_58, ↓nn_64, ↓nn_67, ↓nn_68, ↓nn_84, p_bs, p_rq0, p_rq1, p_rz0, p_rz1, p_us, p_un, p_uj, ↓reduceIte, hlt8', a1', b1']
    have hB' := hB1'
    simp (disch := omega) only [↓ce_36 hB', rf_36 hB', ↓ce_53 hB', rf_53 hB', ↓ce_55 hB', rf_55 hB', ↓ce_57 hB', rf_57 hB', ↓ce_63 hB', rf_63 hB', ↓nn_38, ↓nn_40, ↓nn_45, ↓nn_50, ↓nn_52, ↓nn_53, ↓nn_54, ↓nn_55, ↓nn_56, ↓nn_57, ↓nn_58, ↓nn_59, ↓nn_60, ↓nn_61, ↓nn_62, ↓nn_64, ↓nn_65, ↓nn_66, ↓nn_67, ↓nn_68, ↓nn_84, p_bs, p_rq0, p_rq1, p_rz0, p_rz1, p_us, p_un, p_uj, ↓reduceIte, c1', d1', g1', p_ar]
  · have hk' : k'' = k' ∧ m'' = m' := by
      rw [q3'] at h3'
      rw [q4'] at h4'
      have := p_inj h3' (by omega) (by omega)
      have := p_inj h4' (by omega) (by omega)
      omega
    obtain ⟨rfl, rfl⟩ := hk'
    exact ⟨by rw [g2' 57 (by decide)]; exact d4', by rw [g2' 57 (by decide)]; exact d5', fun x' hx' => by rw [g2' 58 (by decide), d6' x' hx', e58'], fun i' hi' => by rw [g2' 58 (by decide), d7' i' hi', e56']; exact a3'' i' hi'⟩
theorem t_KYa (hdN' : yq_HN dv') (hW' : t_HW H') {f' : Int32} {s1' : Nat → Int32} (hK' : t_KY H' L' X' f' I') {D' : Nat} {J' : p_I} (hG' : t_GS H' s1') (h0' : s1' 0 = Int32.ofNat D') (hD'' : D' < 999) (hay' : t_AY X' H' L' D' s1' I' J') : t_KY H' L' X' f' J' := by
  obtain ⟨h17', hHI', hLC', -, k', m', q1', q2', q3', q4'⟩ := hK'
  have hsc' : p_sc X' = 65 ∨ 111 ≤ p_sc X' := p_scN (hLC' X'.1)
  obtain ⟨a1', a2', a4', a5', a6', a7'⟩ := hay'
  obtain ⟨d1', d2', d3', d4'⟩ := a5' k' m' q1' q2' q3' q4'
  refine ⟨by rw [a1' 36 (by decide) (by decide) (by decide) (by decide) (by decide) (by decide) (by decide) (by decide) (by omega)]; exact h17', t_HIk hHI' (fun c' h1' h2' => a1' c' (by omega) (by omega) (by omega) (by omega) (by omega) (by omega) (by omega) (by omega) (by omega)), fun x' => t_LCk (hLC' x') (fun c' h1' h2' => a1' c' (by omega) (by omega) (by omega) (by omega) (by omega) (by omega) (by omega) (by omega) h2'), ?_, min (k' + 1) 40, (if m' + 1 < 40 then m' + 1 else 0), by omega, by split <;> omega, d2', d1'⟩
  rw [a2']
  have hps' := t_psW (L' := L') hW' hG'.1 h0' (by omega)
  exact ⟨hps'.1, fun g' hg' => by rw [t_ps13 g' hg']; exact hG'.2.1 g' hg', D' + 1, hps'.2, by omega⟩
theorem s_yearsC (hdC' : yq_HC dx' dv') (hdN' : yq_HN dv') (hB' : p_B X') (hW' : t_HW H') {f' : Int32} (hK' : t_KY H' L' X' f' I') {D' : Nat} (hD' : I' 54 0 = Int32.ofNat D') {n' : Nat} (hn' : n' ≤ 30) (hDn' : D' + n' ≤ 999) (x0' : Int64) : ∃ C', q_lp (fun z' => B_X11_years_45 36 (Int32.ofNat n') z'.1 z'.2) q_fu ((0 : Int32), (I', p_L X' 36 19 x0')) = some (C' n', p_L X' 36 19 (yq_yi H' L' dx' dv' f' (I' 54) x0' n').2) ∧ t_SY X' H' L' dx' dv' f' x0' D' I' C' n' := by
  have hS0' : t_SY X' H' L' dx' dv' f' x0' D' I' (fun _ => I') 0 := ⟨rfl, fun j' hj' => by
    obtain rfl : j' = 0 := by omega
    exact ⟨fun _ _ _ _ _ _ _ _ _ _ => rfl, hK', rfl, hD'⟩, fun j' hj' => absurd hj' (by omega)⟩
  obtain ⟨z', h1', C', h2', h3'⟩ := p_lp (fun z' => B_X11_years_45 36 (Int32.ofNat n') z'.1 z'.2) (fun i' z' => ∃ C', z' = (Int32.ofNat i', (C' i', p_L X' 36 19 (yq_yi H' L' dx' dv' f' (I' 54) x0' i').2)) ∧ t_SY X' H' L' dx' dv' f' x0' D' I' C' i')
    (fun z' => ∃ C', z' = (C' n', p_L X' 36 19 (yq_yi H' L' dx' dv' f' (I' 54) x0' n').2) ∧ t_SY X' H' L' dx' dv' f' x0' D' I' C' n') n' (by
      rintro i' z' hi' ⟨C', rfl, j0', j1', j2'⟩
      obtain ⟨fr', hKi', e54', e0'⟩ := j1' i' (Nat.le_refl _)
      by_cases hlt' : i' < n'
      · left
        obtain ⟨K', k1', k2'⟩ := s_yearC (X' := p_L X' 36 19 (yq_yi H' L' dx' dv' f' (I' 54) x0' i').2) (I' := C' i') (L' := L') hdC' hdN' (p_BL hB' _ _ _) hW' (t_KYX hKi' _ _ _) e0' (by omega) hlt' hn'
        rw [p_Lv, p_LL, e54'] at k1'
        rw [p_Lv, e54'] at k2'
        have k2'' := t_AYX k2'
        have hGy' := yq_yrG (L' := L') (dx' := dx') hdN' hW' hKi'.2.2.2.1 f' (yq_yi H' L' dx' dv' f' (I' 54) x0' i').2
        have h0y := yq_yr0 (H' := H') (L' := L') (dx' := dx') (dv' := dv') (s' := C' i' 54) f' (yq_yi H' L' dx' dv' f' (I' 54) x0' i').2
        rw [e0'] at h0y
        rw [e54'] at hGy' h0y
        have hKn' := t_KYa hdN' hW' hKi' hGy' h0y (by omega) k2''
        have hps' := t_psW (L' := L') hW' hGy'.1 h0y (by omega)
        have hsx' : ∀ j', j' ≤ i' → (fun j' => if j' ≤ i' then C' j' else K') j' = C' j' := fun j' hj' => if_pos hj'
        have hsn' : (fun j' => if j' ≤ i' then C' j' else K') (i' + 1) = K' := if_neg (by omega)
        generalize (fun j' => if j' ≤ i' then C' j' else K') = C'' at hsx' hsn'
        refine ⟨_, k1', hlt', C'', by rw [hsn']; rfl, by rw [hsx' 0 (by omega)]; exact j0', fun j' hj' => ?_, fun j' hj' => ?_⟩
        · by_cases ej' : j' ≤ i'
          · rw [hsx' j' ej']; exact j1' j' ej'
          · have : j' = i' + 1 := by omega
            subst this
            rw [hsn']
            exact ⟨fun c' z1' z2' z3' z4' z5' z6' z7' z8' z9' => by rw [k2''.1 c' z1' z2' z3' z4' z5' z6' z7' z8' z9']; exact fr' c' z1' z2' z3' z4' z5' z6' z7' z8' z9', hKn', k2''.2.1, by rw [k2''.2.1]; exact hps'.2⟩
        · by_cases ej' : j' < i'
          · rw [hsx' j' (by omega), hsx' (j' + 1) (by omega)]; exact j2' j' ej'
          · have : j' = i' := by omega
            subst this
            rw [hsx' j' (by omega), hsn']
            exact k2''
      · right
        have hi'' : i' = n' := by omega
        subst hi''
        have hlt8' : (Int32.ofNat i' < Int32.ofNat i') = False := by rw [p_lt i' i' (by omega) (by omega)]; simp
        unfold B_X11_years_45
        simp only [hlt8', ↓reduceIte]
        exact ⟨_, rfl, C', rfl, j0', j1', j2'⟩) n' 0 q_fu (0, (I', p_L X' 36 19 x0')) (by omega) (by unfold q_fu; omega) ⟨fun _ => I', rfl, hS0'⟩
  exact ⟨C', by rw [h1', h2'], h3'⟩
end PD'
