/-! THE INVARIANT between the class's cells and the reference's -/
/-- the log of D days, in a ring of days -/
def t_LG (D' : Nat) (lg' w' : Nat → Int32) : Prop := w' 36 = Int32.ofNat (min D' 60) ∧ ∀ i', i' < min D' 60 → ∀ k', k' < 3 → w' (37 + 3 * i' + k') = lg' (((D' - min D' 60 + i') % 128) * 3 + k')
/-- a row of the class and one of the reference, on day D, with the log -/
def v_R (H' : t_H) (s' w' lg' : Nat → Int32) (D' : Nat) : Prop := t_WF H' s' ∧ t_RS s' w' ∧ s' 0 = Int32.ofNat D' ∧ D' ≤ 999 ∧ (∀ g', g' < 6 → ∃ n', s' (13 + g') = Int32.ofNat n' ∧ n' ≤ 99) ∧ t_LG D' lg' w'
def v_T (I' : p_I) : Prop := ∃ (β : Nat → Nat) (n' : Nat), n' ≤ 240 ∧ (∀ i', i' < n' → β i' < 256) ∧ I' 37 1 = Int32.ofNat n' ∧ I' 87 6 = Int32.ofNat n' ∧ (∀ i', i' < n' → I' 38 i' = t_by (β i')) ∧ (∀ i', i' < n' → I' 88 i' = t_by (β i'))
def v_H (H' : t_H) (hz' : Bool) (I' : p_I) : Prop := I' 36 18 = t_b hz' ∧ t_HI H' I' ∧ t_HM H' I' ∧ (hz' = true → t_HW H') ∧ (hz' = false → t_nd H' = 0 ∧ t_ng H' = 0)
def v_N (H' : t_H) (hz' : Bool) (I' : p_I) (D' : Nat) : Prop := (hz' = true → v_R H' (I' 54) (I' 100) (I' 59) D') ∧ (hz' = false → D' = 0 ∧ (∀ j', j' < 31 → j' ≠ 3 → I' 54 j' = 0) ∧ I' 54 3 = -1 ∧ (∀ j', j' < 37 → I' 100 j' = 0))
def t_ar (I' : p_I) (m' k' j' : Nat) : Nat → Int32 := fun i' => I' 58 (((m' + 40 - k' + j') % 40) * 31 + i')
def t_aw (I' : p_I) (j' : Nat) : Nat → Int32 := fun i' => I' 103 (217 * j' + i')
def v_P (H' : t_H) (hz' : Bool) (I' : p_I) (D' : Nat) : Prop := ∃ (k' m' : Nat) (dd' : Nat → Nat), k' ≤ 40 ∧ m' < 40 ∧ I' 57 6 = Int32.ofNat k' ∧ I' 57 5 = Int32.ofNat m' ∧ I' 87 42 = Int32.ofNat k' ∧ (hz' = false → k' = 0) ∧ dd' k' = D' ∧ (∀ j', j' < k' → v_R H' (t_ar I' m' k' j') (t_aw I' j') (I' 59) (dd' j') ∧ dd' j' ≤ dd' (j' + 1) ∧ dd' (j' + 1) ≤ dd' j' + 1)
def v_G (H' : t_H) (hz' : Bool) (I' : p_I) : Prop := ∃ pc', I' 57 4 = t_b pc' ∧ I' 87 49 = t_b pc' ∧ (pc' = true → hz' = true ∧ ∃ D', v_R H' (I' 62) (I' 107) (I' 60) D')
/-- what was seen -/
def v_C (H' : t_H) (I' : p_I) : Prop := ∃ k', k' ≤ 10 ∧ I' 83 3 = Int32.ofNat k' ∧ I' 87 45 = Int32.ofNat k' ∧ (∀ j', j' < 5 * k' → I' 104 j' = I' 84 j') ∧ (∀ i', i' < k' → ∃ g' d' w' had', I' 84 (5 * i') = Int32.ofNat g' ∧ g' < t_ng H' ∧ I' 84 (5 * i' + 1) = Int32.ofNat d' ∧ d' < t_nd H' ∧ I' 84 (5 * i' + 2) = Int32.ofNat w' ∧ w' ≤ 20 ∧ I' 84 (5 * i' + 4) = t_b had')
def v_L (I' : p_I) (X' : p_X) (lc' : Nat) (lwf' : Nat → Nat) : Prop := lc' ≤ 4 ∧ I' 36 14 = Int32.ofNat lc' ∧ I' 87 7 = Int32.ofNat lc' ∧ ∀ i', i' < lc' → ∃ (β : Nat → Nat) (n' : Nat) (cls' : List t_Cl), X'.2.1 51 i' = lwf' i' + 1 ∧ t_LO (lwf' i') (t_lcode cls').length X' ∧ (∀ j', j' < (t_lcode cls').length → I' (lwf' i' + 1) j' = (t_lcode cls').getD j' 0) ∧ (∀ cl' ∈ cls', t_GC cl') ∧ t_law β n' 241 0 [] = .inr cls' ∧ n' ≤ 240 ∧ (∀ j', j' < n' → β j' < 256) ∧ (∀ j', j' < n' → I' 89 (240 * i' + j') = t_by (β j')) ∧ I' 90 i' = Int32.ofNat n'
def v_LH (I' : p_I) (X' : p_X) (lc' : Nat) (lwf' : Nat → Nat) : Prop := (I' 36 16 = -1 ∧ I' 87 34 = -1 ∧ X'.2.1 63 3 = 0) ∨ (∃ i', i' < lc' ∧ I' 36 16 = Int32.ofNat i' ∧ I' 87 34 = Int32.ofNat i' ∧ X'.2.1 63 3 = lwf' i' + 1)
def v_W (I' : p_I) (X' : p_X) (wc' : Nat) (wkf' : Nat → Nat) : Prop := wc' ≤ 4 ∧ I' 36 15 = Int32.ofNat wc' ∧ I' 87 30 = Int32.ofNat wc' ∧ (∀ i', i' ≤ wc' → t_WS (wkf' i') X') ∧ X'.2.1 36 13 = wkf' wc' + 1 ∧ ∀ i', i' < wc' → X'.2.1 52 i' = wkf' i' + 1 ∧ ∃ sz', sz' ≤ 16 ∧ I' (wkf' i') 1 = Int32.ofNat sz' ∧ I' 99 i' = Int32.ofNat sz' ∧ (∀ j', j' < 3 * sz' → I' 98 (48 * i' + j') = I' (wkf' i' + 1) j') ∧ (∀ j', j' < sz' → ∃ q', q' < 5 ∧ I' (wkf' i' + 1) (3 * j') = Int32.ofNat q')
def v_D (lc' : Nat) (lwf' : Nat → Nat) (wc' : Nat) (wkf' : Nat → Nat) : Prop := (∀ i' j', i' < lc' → j' < lc' → i' ≠ j' → lwf' i' + 3 ≤ lwf' j' ∨ lwf' j' + 3 ≤ lwf' i') ∧ (∀ i' j', i' ≤ wc' → j' ≤ wc' → i' ≠ j' → wkf' i' + 2 ≤ wkf' j' ∨ wkf' j' + 2 ≤ wkf' i') ∧ (∀ i' j', i' < lc' → j' ≤ wc' → lwf' i' + 3 ≤ wkf' j' ∨ wkf' j' + 2 ≤ lwf' i')
def v_F (I' : p_I) : Prop := ∃ f', f' ≤ 9 ∧ I' 36 17 = Int32.ofNat f' ∧ I' 87 35 = Int32.ofNat f'
abbrev v_A : Type := t_H × Bool × Nat × Nat × (Nat → Nat) × Nat × (Nat → Nat)
def v_V (A' : v_A) (I' : p_I) (X' : p_X) : Prop := p_B X' ∧ p_S I' ∧ v_T I' ∧ v_H A'.1 A'.2.1 I' ∧ v_N A'.1 A'.2.1 I' A'.2.2.1 ∧ v_P A'.1 A'.2.1 I' A'.2.2.1 ∧ v_G A'.1 A'.2.1 I' ∧ v_C A'.1 I' ∧ v_L I' X' A'.2.2.2.1 A'.2.2.2.2.1 ∧ v_LH I' X' A'.2.2.2.1 A'.2.2.2.2.1 ∧ v_W I' X' A'.2.2.2.2.2.1 A'.2.2.2.2.2.2 ∧ v_D A'.2.2.2.1 A'.2.2.2.2.1 A'.2.2.2.2.2.1 A'.2.2.2.2.2.2 ∧ v_F I'
/-- the class's and the reference's own workings, which nobody sees -/
abbrev t_sct (c' : Nat) : Prop := c' = 37 ∨ c' = 44 ∨ c' = 45 ∨ c' = 46 ∨ c' = 47 ∨ c' = 49 ∨ c' = 50 ∨ c' = 56 ∨ c' = 63 ∨ c' = 64 ∨ c' = 65 ∨ c' = 67 ∨ c' = 69 ∨ c' = 71 ∨ c' = 72 ∨ c' = 74 ∨ c' = 76 ∨ c' = 78 ∨ c' = 80 ∨ c' = 82 ∨ c' = 85 ∨ c' = 86 ∨ c' = 87 ∨ c' = 91 ∨ c' = 93 ∨ c' = 95 ∨ c' = 97 ∨ c' = 98 ∨ c' = 99 ∨ c' = 101 ∨ c' = 102 ∨ c' = 105 ∨ c' = 106
def t_SC (X' : p_X) (I' J' : p_I) : Prop := (∀ c', c' < 109 → ¬ t_sct c' → J' c' = I' c') ∧ J' 37 1 = I' 37 1 ∧ (∀ j', ¬ (8 ≤ j' ∧ j' ≤ 14) → j' ≠ 17 → ¬ (37 ≤ j' ∧ j' ≤ 40) → j' ≠ 0 → j' ≠ 28 → j' ≠ 29 → j' ≠ 31 → J' 87 j' = I' 87 j') ∧ (∀ j', j' < 192 → J' 98 j' = I' 98 j') ∧ (∀ j', j' ≠ 4 → J' 99 j' = I' 99 j') ∧ (∀ c', c' = 85 ∨ c' = 86 ∨ 109 ≤ c' → c' ≠ p_sc X' → c' + 1 ≠ X'.2.1 36 13 → c' ≠ X'.2.1 36 13 → J' c' = I' c')
theorem p_Tr (X' : p_X) (u' k' j' : Nat) (h' : ¬ (k' = 87 ∧ j' = 5)) : (p_T X' u').2.1 k' j' = X'.2.1 k' j' := p_uN _ _ _ _ _ _ h'
theorem p_Tsh (X' : p_X) (u' : Nat) : (p_T X' u').2.2 = X'.2.2 := rfl
theorem p_Tsc (X' : p_X) (u' : Nat) : p_sc (p_T X' u') = p_sc X' := by
  unfold p_sc
  rw [p_Tr X' u' 63 3 (by omega)]
theorem t_SCt {X' : p_X} {I' J' K' : p_I} {u' : Nat} (h' : t_SC X' I' J') (h2' : t_SC (p_T X' u') J' K') : t_SC X' I' K' := by
  obtain ⟨a1', a2', a3', a4', a5', a6'⟩ := h'
  obtain ⟨b1', b2', b3', b4', b5', b6'⟩ := h2'
  rw [p_Tsc, p_Tr X' u' 36 13 (by omega)] at b6'
  exact ⟨fun c' h1' h2' => by rw [b1' c' h1' h2', a1' c' h1' h2'], by rw [b2', a2'], fun j' h1' h2' h3' h4' h5' h6' h7' => by rw [b3' j' h1' h2' h3' h4' h5' h6' h7', a3' j' h1' h2' h3' h4' h5' h6' h7'], fun j' hj' => by rw [b4' j' hj', a4' j' hj'], fun j' hj' => by rw [b5' j' hj', a5' j' hj'], fun c' h1' h2' h3' h4' => by rw [b6' c' h1' h2' h3' h4', a6' c' h1' h2' h3' h4']⟩
theorem t_SCr (X' : p_X) (I' : p_I) : t_SC X' I' I' := ⟨fun _ _ _ => rfl, rfl, fun _ _ _ _ _ _ _ _ => rfl, fun _ _ => rfl, fun _ _ => rfl, fun _ _ _ _ _ => rfl⟩
theorem t_SCs {X' : p_X} {I' J' K' : p_I} (h' : t_SC X' I' J') (h2' : t_SC X' J' K') : t_SC X' I' K' := by
  have h2'' : t_SC (p_T X' (X'.2.1 87 5)) J' K' := by rw [p_Ts]; exact h2'
  exact t_SCt h' h2''
theorem t_LOT {lw' L' : Nat} {X' : p_X} (h' : t_LO lw' L' X') (u' : Nat) : t_LO lw' L' (p_T X' u') := by
  obtain ⟨h1', h2', h3', h4', h5', h6', h7'⟩ := h'
  exact ⟨h1', by rw [p_Tr X' u' _ _ (by omega)]; exact h2', by rw [p_Tr X' u' _ _ (by omega)]; exact h3', h4', h5', h6', h7'⟩
theorem t_WST {wd' : Nat} {X' : p_X} (h' : t_WS wd' X') (u' : Nat) : t_WS wd' (p_T X' u') := by
  obtain ⟨h1', h2', h3', h4', h5'⟩ := h'
  exact ⟨h1', by rw [p_Tr X' u' _ _ (by omega)]; exact h2', h3', h4', h5'⟩
theorem v_scN {A' : v_A} {I' : p_I} {X' : p_X} (h' : v_V A' I' X') : p_sc X' = 65 ∨ ∃ i', i' < A'.2.2.2.1 ∧ p_sc X' = A'.2.2.2.2.1 i' + 2 := by
  obtain ⟨-, -, -, -, -, -, -, -, -, hLH', -⟩ := h'
  rcases hLH' with ⟨-, -, h'⟩ | ⟨i', hi', -, -, h'⟩
  · left; simp [p_sc, h']
  · right; exact ⟨i', hi', by simp [p_sc, h']⟩
theorem v_Rk {H' : t_H} {s' w' lg' lg'' : Nat → Int32} {D' : Nat} (h' : v_R H' s' w' lg' D') (hl' : lg'' = lg') : v_R H' s' w' lg'' D' := by rw [hl']; exact h'
/-- workings may change -/
theorem v_keep {A' : v_A} {I' J' : p_I} {X' : p_X} (h' : v_V A' I' X') (hs' : t_SC X' I' J') (u' : Nat) : v_V A' J' (p_T X' u') := by
  have hsc' := v_scN h'
  obtain ⟨hB', hS', hT', hH', hN', hP', hG', hC', hL', hLH', hW', hD', hF'⟩ := h'
  obtain ⟨s1', s2', s3', s4', s5', s6'⟩ := hs'
  obtain ⟨H', hz', D', lc', lwf', wc', wkf'⟩ := A'
  try simp only at *
  have k' : ∀ c', c' < 109 → ¬ t_sct c' → J' c' = I' c' := s1'
  have k36' : J' 36 = I' 36 := k' 36 (by omega) (by omega)
  have k39' : ∀ c', 39 ≤ c' → c' ≤ 43 → J' c' = I' c' := fun c' h1' h2' => k' c' (by omega) (by omega)
  have kj' : ∀ j', j' = 6 ∨ j' = 7 ∨ j' = 26 ∨ j' = 27 ∨ j' = 30 ∨ j' = 34 ∨ j' = 35 ∨ j' = 42 ∨ j' = 45 ∨ j' = 49 → J' 87 j' = I' 87 j' := fun j' hj' => s3' j' (by omega) (by omega) (by omega) (by omega) (by omega) (by omega) (by omega)
  have hwd' := hW'.2.2.2.2.1
  have hLO' : ∀ i', i' < lc' → 109 ≤ lwf' i' := fun i' hi' => by
    obtain ⟨β, n', cls', -, h2', -⟩ := hL'.2.2.2 i' hi'
    exact h2'.2.2.2.2.2.1
  have hWS' : ∀ i', i' ≤ wc' → 85 ≤ wkf' i' ∧ (wkf' i' = 85 ∨ 109 ≤ wkf' i') := fun i' hi' => ⟨(hW'.2.2.2.1 i' hi').2.2.2.1, (hW'.2.2.2.1 i' hi').2.2.2.2⟩
  unfold v_V
  simp only
  refine ⟨p_BT hB' u', fun c' hc' => by rw [k' c' (by omega) (by omega)]; exact hS' c' hc', ?_, ?_, ?_, ?_, ?_, ?_, ?_, ?_, ?_, hD', ?_⟩
  · obtain ⟨β, n', a1', a2', a3', a4', a5', a6'⟩ := hT'
    exact ⟨β, n', a1', a2', by rw [s2']; exact a3', by rw [kj' 6 (by omega)]; exact a4', by rw [k' 38 (by omega) (by omega)]; exact a5', by rw [k' 88 (by omega) (by omega)]; exact a6'⟩
  · obtain ⟨a1', a2', a3', a4', a5'⟩ := hH'
    exact ⟨by rw [k36']; exact a1', t_HIk a2' k39', t_HMk a3' (k' 92 (by omega) (by omega)) (k' 94 (by omega) (by omega)) (k' 96 (by omega) (by omega)) (kj' 26 (by omega)) (kj' 27 (by omega)), a4', a5'⟩
  · unfold v_N
    rw [k' 54 (by omega) (by omega), k' 100 (by omega) (by omega), k' 59 (by omega) (by omega)]
    exact hN'
  · obtain ⟨kk', m', dd', a1', a2', a3', a4', a5', a6', a7', a8'⟩ := hP'
    refine ⟨kk', m', dd', a1', a2', by rw [k' 57 (by omega) (by omega)]; exact a3', by rw [k' 57 (by omega) (by omega)]; exact a4', by rw [kj' 42 (by omega)]; exact a5', a6', a7', fun j' hj' => ?_⟩
    have e1' : t_ar J' m' kk' j' = t_ar I' m' kk' j' := by unfold t_ar; rw [k' 58 (by omega) (by omega)]
    have e2' : t_aw J' j' = t_aw I' j' := by unfold t_aw; rw [k' 103 (by omega) (by omega)]
    rw [e1', e2', k' 59 (by omega) (by omega)]
    exact a8' j' hj'
  · obtain ⟨pc', a1', a2', a3'⟩ := hG'
    refine ⟨pc', by rw [k' 57 (by omega) (by omega)]; exact a1', by rw [kj' 49 (by omega)]; exact a2', fun h' => ?_⟩
    rw [k' 62 (by omega) (by omega), k' 107 (by omega) (by omega), k' 60 (by omega) (by omega)]
    exact a3' h'
  · unfold v_C
    rw [k' 83 (by omega) (by omega), kj' 45 (by omega), k' 84 (by omega) (by omega), k' 104 (by omega) (by omega)]
    exact hC'
  · obtain ⟨a1', a2', a3', a4'⟩ := hL'
    refine ⟨a1', by rw [k36']; exact a2', by rw [kj' 7 (by omega)]; exact a3', fun i' hi' => ?_⟩
    obtain ⟨β, n', cls', b1', b2', b3', b4', b5', b6', b7', b8', b9'⟩ := a4' i' hi'
    have h9' := hLO' i' hi'
    have hd' := hD'.2.2 i' wc' hi' (Nat.le_refl _)
    have hne' : lwf' i' + 1 ≠ p_sc X' := by
      rcases hsc' with h' | ⟨i'', hi'', h'⟩
      · omega
      · by_cases e' : i' = i''
        · subst e'; omega
        · have := hD'.1 i' i'' hi' hi'' e'; omega
    have e1' : J' (lwf' i' + 1) = I' (lwf' i' + 1) := s6' _ (by omega) hne' (by omega) (by omega)
    refine ⟨β, n', cls', by rw [p_Tr X' u' 51 i' (by omega)]; exact b1', t_LOT b2' u', by rw [e1']; exact b3', b4', b5', b6', b7', by rw [k' 89 (by omega) (by omega)]; exact b8', by rw [k' 90 (by omega) (by omega)]; exact b9'⟩
  · unfold v_LH
    rw [k36', kj' 34 (by omega), p_Tr X' u' 63 3 (by omega)]
    exact hLH'
  · obtain ⟨a1', a2', a3', a4', a5', a6'⟩ := hW'
    refine ⟨a1', by rw [k36']; exact a2', by rw [kj' 30 (by omega)]; exact a3', fun i' hi' => t_WST (a4' i' hi') u', by rw [p_Tr X' u' 36 13 (by omega)]; exact a5', fun i' hi' => ?_⟩
    obtain ⟨b1', sz', b2', b3', b4', b5', b6'⟩ := a6' i' hi'
    have h9' := hWS' i' (by omega)
    have hd' := hD'.2.1 i' wc' (by omega) (Nat.le_refl _) (by omega)
    have hne' : wkf' i' ≠ p_sc X' ∧ wkf' i' + 1 ≠ p_sc X' := by
      rcases hsc' with h' | ⟨i'', hi'', h'⟩
      · omega
      · have := hD'.2.2 i'' i' hi'' (by omega); omega
    have e1' : J' (wkf' i') = I' (wkf' i') := s6' _ (by omega) hne'.1 (by omega) (by omega)
    have e2' : J' (wkf' i' + 1) = I' (wkf' i' + 1) := s6' _ (by omega) hne'.2 (by omega) (by omega)
    refine ⟨by rw [p_Tr X' u' 52 i' (by omega)]; exact b1', sz', b2', by rw [e1']; exact b3', by rw [s5' i' (by omega)]; exact b4', fun j' hj' => by rw [s4' _ (by omega), e2']; exact b5' j' hj', by rw [e2']; exact b6'⟩
  · obtain ⟨f', a1', a2', a3'⟩ := hF'
    exact ⟨f', a1', by rw [k36']; exact a2', by rw [kj' 35 (by omega)]; exact a3'⟩
def t_6 (ρ : Nat → Int32) (k' : Nat) : Int32 := if k' < 6 then ρ k' else 0
theorem t_6b {ρ : Nat → Int32} (h' : t_Lb ρ) : t_Lb (t_6 ρ) := fun j' hj' => by
  unfold t_6
  rw [if_pos hj']
  exact h' j' hj'
/-- the law that holds, on both sides -/
theorem v_law {A' : v_A} {I' : p_I} {X' : p_X} (h' : v_V A' I' X') : ∃ L', t_LC L' X' I' ∧ t_LM L' X' I' := by
  obtain ⟨hB', hS', hT', hH', hN', hP', hG', hC', hL', hLH', hW', hD', hF'⟩ := h'
  rcases hLH' with ⟨h1', h2', h3'⟩ | ⟨i', hi', h1', h2', h3'⟩
  · exact ⟨none, h3', h2'⟩
  · obtain ⟨β, n', cls', b1', b2', b3', b4', b5', b6', b7', b8', b9'⟩ := hL'.2.2.2 i' hi'
    have hlc' := hL'.1
    refine ⟨some (fun ρ => t_lval (t_6 ρ) cls'), ?_, ?_⟩
    · refine ⟨A'.2.2.2.2.1 i', h3', b2'.2.2.2.2.2.1, b2'.1, fun J' ρ hρ e1' e2' e3' => ?_⟩
      exact s_worth hB' b2' b4' (t_6b hρ) (by rw [e2']; exact b3') (fun j' hj' => by unfold t_6; rw [if_pos hj']; exact e3' j' hj')
    · refine ⟨i', h2', by omega, fun u' J' ρ hρ hSJ' e1' e2' e3' => ?_⟩
      obtain ⟨J'', g1', g2', g3', g4'⟩ := s_goThrough (β := β) (n' := n') (I' := J') (tc' := 89) (bg' := 240 * i') (p_BT hB' u') hSJ' (.inr ⟨rfl, by omega⟩) b6' (by rw [e1']; exact b8') b7'
      have hrh' : t_rh J' = t_6 ρ := by
        funext k'
        unfold t_rh t_6
        by_cases hk' : k' < 6
        · rw [if_pos hk', if_pos hk']
          obtain ⟨z1', z2', z3', z4', z5', z6'⟩ := e3'
          match k', hk' with
          | 0, _ => exact z1'
          | 1, _ => exact z2'
          | 2, _ => exact z3'
          | 3, _ => exact z4'
          | 4, _ => exact z5'
          | 5, _ => exact z6'
        · rw [if_neg hk', if_neg hk']
      rw [b9']
      rw [p_TT] at g1'
      refine ⟨J'', 90, g1', ?_, g2', g3'⟩
      rcases g4' with ⟨x', q1', -⟩ | ⟨cls'', q1', -, q3'⟩
      · rw [b5'] at q1'; cases q1'
      · rw [b5'] at q1'
        cases q1'
        rw [hrh'] at q3'
        exact q3' (t_6b hρ)
