/-- where a law's stack lies (65: there is no law that holds) -/
def p_sc (X' : p_X) : Nat := if X'.2.1 63 3 = 0 then 65 else X'.2.1 63 3 + 1
abbrev t_L : Type := Option ((Nat → Int32) → Int32)
/-- letters that a law can bear -/
def t_Lb (ρ : Nat → Int32) : Prop := ∀ j', j' < 6 → -1000000 ≤ (ρ j').toInt ∧ (ρ j').toInt ≤ 1000000
/-- the class's law that holds has the worth that L tells -/
def t_LC (L' : t_L) (X' : p_X) (I' : p_I) : Prop := match L' with
  | none => X'.2.1 63 3 = 0
  | some wf' => ∃ lw', X'.2.1 63 3 = lw' + 1 ∧ 109 ≤ lw' ∧ X'.2.2[lw']? = some (.inl 4) ∧ ∀ (J' : p_I) (ρ : Nat → Int32), t_Lb ρ → J' lw' = I' lw' → J' (lw' + 1) = I' (lw' + 1) → (∀ j', j' < 6 → J' 65 j' = ρ j') → ∃ J'', F_X4_worth lw' 65 (J', X') = some (wf' ρ, (J'', X')) ∧ ∀ c', c' ≠ lw' + 2 → J'' c' = J' c'
theorem t_LCk {L' : t_L} {X' : p_X} {I' J' : p_I} (h' : t_LC L' X' I') (hk' : ∀ c', 109 ≤ c' → c' ≠ p_sc X' → J' c' = I' c') : t_LC L' X' J' := by
  unfold t_LC at *
  cases L' with
  | none => exact h'
  | some wf' =>
    obtain ⟨lw', h1', h2', h3', h4'⟩ := h'
    have hs' : p_sc X' = lw' + 2 := by simp [p_sc, h1']
    refine ⟨lw', h1', h2', h3', fun J'' ρ e0' e1' e2' => h4' J'' ρ e0' (e1'.trans (hk' _ (by omega) (by omega))) (e2'.trans (hk' _ (by omega) (by omega)))⟩
theorem p_scN {L' : t_L} {X' : p_X} {I' : p_I} (h' : t_LC L' X' I') : p_sc X' = 65 ∨ 111 ≤ p_sc X' := by
  unfold t_LC at h'
  cases L' with
  | none => left; simp only at h'; simp [p_sc, h']
  | some wf' => obtain ⟨lw', h1', h2', -⟩ := h'; right; simp [p_sc, h1']; omega
def t_lt (w' l' f' n' p' d' : Int32) (j' : Nat) : Int32 := match j' with
  | 0 => w' | 1 => l' | 2 => f' | 3 => n' | 4 => p' | _ => d'
def t_jb (L' : t_L) (w' : Int32) (l' : Bool) (f' n' p' d' : Int32) : Int32 := match L' with
  | none => if f' = 0 then -2 else w' / 3 + (if l' = true then 3 else 0)
  | some wf' => q_mx (-9) (q_mn 20 (wf' (t_lt w' (t_b l') f' n' p' d')))
section PD'
variable {X' : p_X} {I' : p_I} {H' : t_H} {k' : Nat} {L' : t_L}
theorem s_joyBy (hB' : p_B X') (hL' : t_LC L' X' I') (w' : Int32) (l' : Bool) (f' n' p' d' : Int32) (hb' : t_Lb (t_lt w' (t_b l') f' n' p' d')) :
    ∃ I'', F_X1_joyBy 63 w' (t_b l') f' n' p' d' (I', X') = some (t_jb L' w' l' f' n' p' d', (I'', X')) ∧ (∀ c', c' ≠ 65 → c' ≠ p_sc X' → I'' c' = I' c') := by
  unfold t_LC at hL'
  cases L' with
  | none =>
    simp only at hL'
    unfold F_X1_joyBy q_dvi t_jb
    simp (disch := omega) only [↓ce_63 hB', rf_63 hB', ↓nn_40, ↓nn_65, ↓nn_66, p_bs, p_rq0, p_rq1, p_rz0, p_rz1, p_us, p_un, p_uj, ↓reduceIte, hL', t_b0, show ((3 : Int32) = 0) = False from by decide]
    refine ⟨I', ?_, fun _ _ _ => rfl⟩
    by_cases h1' : f' = 0
    · simp only [h1', ↓reduceIte]
    · simp only [h1', ↓reduceIte]
      cases l' <;> simp only [Bool.true_eq_false, Bool.false_eq_true, ↓reduceIte]
  | some wf' =>
    obtain ⟨lw', h1', h2', h3', h4'⟩ := hL'
    have hs' : p_sc X' = lw' + 2 := by simp [p_sc, h1']
    unfold F_X1_joyBy J_X1_joyBy_51
    simp (disch := omega) only [↓ce_63 hB', rf_63 hB', ↓ce_65 hB', ↓nn_40, ↓nn_65, ↓nn_66, p_bs, p_rq0, p_rq1, p_rz0, p_rz1, p_us, p_un, p_uj, ↓reduceIte, h1', t_b0, p_nns]
    have key' : ∀ v', v' = t_b l' → ∃ I'', (q_ob (q_u2 (q_u2 (q_u2 (q_u2 (q_u2 (q_u2 I' 65 0 w') 65 1 v') 65 2 f') 65 3 n') 65 4 p') 65 5 d', X') lw' 4 ((F_X4_worth lw' 65 (q_u2 (q_u2 (q_u2 (q_u2 (q_u2 (q_u2 I' 65 0 w') 65 1 v') 65 2 f') 65 3 n') 65 4 p') 65 5 d', X')).bind fun x' => match x' with | (u26', M27') => some (q_mx (-9) (q_mn 20 u26'), M27'))) = some (t_jb (some wf') w' l' f' n' p' d', (I'', X')) ∧ (∀ c', c' ≠ 65 → c' ≠ p_sc X' → I'' c' = I' c') := by
      rintro v' rfl
      obtain ⟨J'', g1', g2'⟩ := h4' (q_u2 (q_u2 (q_u2 (q_u2 (q_u2 (q_u2 I' 65 0 w') 65 1 (t_b l')) 65 2 f') 65 3 n') 65 4 p') 65 5 d') (t_lt w' (t_b l') f' n' p' d') hb' (by simp (disch := omega) only [p_uc]) (by simp (disch := omega) only [p_uc]) (by
        intro j' hj'
        match j', hj' with
        | 0, _ => simp (disch := omega) only [p_us, p_uj, t_lt]
        | 1, _ => simp (disch := omega) only [p_us, p_uj, t_lt]
        | 2, _ => simp (disch := omega) only [p_us, p_uj, t_lt]
        | 3, _ => simp (disch := omega) only [p_us, p_uj, t_lt]
        | 4, _ => simp (disch := omega) only [p_us, p_uj, t_lt]
        | 5, _ => simp (disch := omega) only [p_us, p_uj, t_lt])
      rw [p_ob h3', g1']
      refine ⟨J'', rfl, fun c' c1' c2' => ?_⟩
      rw [g2' c' (by omega)]
      simp (disch := omega) only [p_uc]
    cases l'
    · simp only [↓reduceIte]; exact key' 0 rfl
    · simp only [Bool.true_eq_false, ↓reduceIte]; exact key' 1 rfl
/-- what a guest's joy does to the row -/
noncomputable def t_gd (H' : t_H) (L' : t_L) (s' r' : Nat → Int32) (g' : Nat) : Nat → Int32 :=
  let joy' := q_mx (-99) (q_mn 999 (r' (25 + g') + t_jb L' (t_wm H' s') (!decide (t_ds H' s' = -1) && decide (t_hd H' ((t_ds H' s').toNatClampNeg * 3 + 2) = r' (19 + g'))) (t_pl H' s' g') (r' 0 - t_hg H' (g' * 4)) (t_hg H' (g' * 4 + 3)) (r' 0)))
  let r2' := va_up (va_up r' (25 + g') joy') 2 (q_mn 999 (r' 2 + t_hg H' (g' * 4 + 3)))
  if -10 < joy' then r2' else va_up r2' 4 (r' 4 ||| ((1 : Int32) <<< (Int32.ofNat g' &&& 31)))
noncomputable def t_gl (H' : t_H) (L' : t_L) (s' r' : Nat → Int32) : Nat → (Nat → Int32)
  | 0 => r'
  | g' + 1 => if t_tp H' s' g' = true then t_gd H' L' s' (t_gl H' L' s' r' g') g' else t_gl H' L' s' r' g'
/-- the row before the joys -/
noncomputable def t_p1 (H' : t_H) (s' : Nat → Int32) : Nat → Int32 :=
  va_up (va_up (va_up s' (5 + (s' 0 &&& 3).toNatClampNeg) (t_ck H' s')) (9 + (s' 0 &&& 3).toNatClampNeg) (t_pn H' s')) 2 (q_mx 0 (s' 2 - t_pn H' s' * t_hd H' ((t_ck H' s').toNatClampNeg * 3 + 1)))
noncomputable def t_ps (H' : t_H) (L' : t_L) (s' : Nat → Int32) : Nat → Int32 :=
  let r' := t_gl H' L' s' (t_p1 H' s') (t_ng H')
  va_up (va_up r' 3 (-1)) 0 (r' 0 + 1)
theorem p_ur (I' : p_I) (k' j' : Nat) (v' : Int32) : q_u2 I' k' j' v' k' = va_up (I' k') j' v' := by simp [q_u2, va_up]
theorem p_va (f' : Nat → Int32) (j' : Nat) (v' : Int32) (i' : Nat) : va_up f' j' v' i' = if i' = j' then v' else f' i' := rfl
theorem p_vs (f' : Nat → Int32) (j' : Nat) (v' : Int32) : va_up f' j' v' j' = v' := if_pos rfl
theorem p_vn (f' : Nat → Int32) (j' : Nat) (v' : Int32) (i' : Nat) (h' : i' ≠ j') : va_up f' j' v' i' = f' i' := if_neg h'
theorem s_glad37 (hB' : p_B X') (hH' : t_HI H' I') (hk' : t_SK k') (hL' : t_LC L' X' I') {s' : Nat → Int32} (g' : Nat) (hg' : g' < t_ng H') (h8' : I' 63 8 = t_wm H' s') (h64' : I' 64 g' = t_pl H' s' g') (hb' : ∀ l', t_Lb (t_lt (t_wm H' s') (t_b l') (t_pl H' s' g') (I' (k' + 1) 0 - t_hg H' (g' * 4)) (t_hg H' (g' * 4 + 3)) (I' (k' + 1) 0))) (l' : Bool) (hl' : l' = (!decide (t_ds H' s' = -1) && decide (t_hd H' ((t_ds H' s').toNatClampNeg * 3 + 2) = I' (k' + 1) (19 + g')))) :
    ∃ I'', J_X1_gladden_37 63 k' (Int32.ofNat g') (t_b l') (I', X') = some ((), I'', X') ∧ (∀ c', c' ≠ 65 → c' ≠ p_sc X' → c' ≠ k' + 1 → I'' c' = I' c') ∧ I'' (k' + 1) = t_gd H' L' s' (I' (k' + 1)) g' := by
  have hng' : t_ng H' ≤ 6 := hH'.2.2.2.2.2.2.2
  have hG3' : F_X3_ofGuest 39 (Int32.ofNat g') 3 (I', X') = some (t_hg H' (g' * 4 + 3)) := s_ofGuest hB' hH' g' 3 (by omega) (by omega)
  have hG0' : F_X3_ofGuest 39 (Int32.ofNat g') 0 (I', X') = some (t_hg H' (g' * 4)) := s_ofGuest hB' hH' g' 0 (by omega) (by omega)
  obtain ⟨J', a1', a2'⟩ := s_joyBy hB' hL' (t_wm H' s') l' (t_pl H' s' g') (I' (k' + 1) 0 - t_hg H' (g' * 4)) (t_hg H' (g' * 4 + 3)) (I' (k' + 1) 0) (hb' l')
  have hsc' := p_scN hL'
  have e1' : J' (k' + 1) = I' (k' + 1) := a2' _ (by omega) (by omega)
  unfold J_X1_gladden_37
  simp (disch := omega) only [↓ce_63 hB', rf_63 hB', ↓ce_39 hB', rf_39 hB', ↓ce_64 hB', ↓nn_40, ↓nn_41, ↓nn_42, ↓nn_43, ↓nn_44, ↓nn_65, ↓nn_66, p_bs, p_rq0, p_rq1, p_rz0, p_rz1, p_us, p_un, p_uj, ↓reduceIte, p_st hk' hB', hG3', hG0', h8', h64', a1', p_ar, e1']
  by_cases c' : (-10 : Int32) < q_mx (-99) (q_mn 999 (I' (k' + 1) (25 + g') + t_jb L' (t_wm H' s') l' (t_pl H' s' g') (I' (k' + 1) 0 - t_hg H' (g' * 4)) (t_hg H' (g' * 4 + 3)) (I' (k' + 1) 0)))
  · simp only [c', ↓reduceIte]
    refine ⟨_, rfl, ?_, ?_⟩
    · intro x' h1' h2' h3'; rw [p_uc _ _ _ _ _ h3', p_uc _ _ _ _ _ h3', a2' x' h1' h2']
    · unfold t_gd
      simp only [← hl', c', ↓reduceIte, p_ur, e1']
  · simp only [c', ↓reduceIte]
    refine ⟨_, rfl, ?_, ?_⟩
    · intro x' h1' h2' h3'; rw [p_uc _ _ _ _ _ h3', p_uc _ _ _ _ _ h3', p_uc _ _ _ _ _ h3', a2' x' h1' h2']
    · unfold t_gd
      simp only [← hl', c', ↓reduceIte, p_ur, e1']
theorem s_gladden (hB' : p_B X') (hH' : t_HI H' I') (hk' : t_SK k') (hL' : t_LC L' X' I') {s' : Nat → Int32} (g' : Nat) (hg' : g' < t_ng H') (h7' : I' 63 7 = t_ds H' s') (hd' : t_ds H' s' = -1 ∨ ∃ d', t_ds H' s' = Int32.ofNat d' ∧ d' < t_nd H') (h8' : I' 63 8 = t_wm H' s') (h64' : I' 64 g' = t_pl H' s' g') (hb' : ∀ l', t_Lb (t_lt (t_wm H' s') (t_b l') (t_pl H' s' g') (I' (k' + 1) 0 - t_hg H' (g' * 4)) (t_hg H' (g' * 4 + 3)) (I' (k' + 1) 0))) :
    ∃ I'', F_X1_gladden 63 k' (Int32.ofNat g') (I', X') = some ((), I'', X') ∧ (∀ c', c' ≠ 65 → c' ≠ p_sc X' → c' ≠ k' + 1 → I'' c' = I' c') ∧ I'' (k' + 1) = t_gd H' L' s' (I' (k' + 1)) g' := by
  have hng' : t_ng H' ≤ 6 := hH'.2.2.2.2.2.2.2
  have hnd' : t_nd H' ≤ 5 := hH'.2.2.2.2.2.2.1
  unfold F_X1_gladden J_X1_gladden_36
  simp (disch := omega) only [↓ce_63 hB', rf_63 hB', ↓nn_40, ↓nn_65, ↓nn_66, p_bs, p_rq0, p_rq1, p_rz0, p_rz1, p_us, p_un, p_uj, ↓reduceIte, h7']
  rcases hd' with hd' | ⟨d', hd', hd''⟩
  · simp only [hd', ↓reduceIte]
    exact s_glad37 hB' hH' hk' hL' g' hg' h8' h64' hb' false (by simp [hd'])
  · have hD' : F_X3_ofDish 39 (Int32.ofNat d') 2 (I', X') = some (t_hd H' (d' * 3 + 2)) := s_ofDish hB' hH' d' 2 (by omega) (by omega)
    simp (disch := omega) only [↓ce_63 hB', rf_63 hB', ↓ce_39 hB', rf_39 hB', ↓nn_40, ↓nn_41, ↓nn_42, ↓nn_43, ↓nn_44, ↓nn_65, ↓nn_66, p_bs, p_rq0, p_rq1, p_rz0, p_rz1, p_us, p_un, p_uj, ↓reduceIte, hd', p_ofN1, p_st hk' hB', hD', p_ar]
    by_cases c' : t_hd H' (d' * 3 + 2) = I' (k' + 1) (19 + g')
    · simp only [c', ↓reduceIte]
      exact s_glad37 hB' hH' hk' hL' g' hg' h8' h64' hb' true (by simp [hd', p_ofN1 d' (by omega), p_nat d' (by omega), c'])
    · simp only [c', ↓reduceIte]
      exact s_glad37 hB' hH' hk' hL' g' hg' h8' h64' hb' false (by simp [hd', p_ofN1 d' (by omega), p_nat d' (by omega), c'])
theorem t_gdF (H' : t_H) (L' : t_L) (s' r' : Nat → Int32) (g' j' : Nat) (h2' : j' ≠ 2) (h4' : j' ≠ 4) (h' : j' ≠ 25 + g') : t_gd H' L' s' r' g' j' = r' j' := by
  unfold t_gd
  try simp only
  split
  · rw [p_vn _ _ _ _ h2', p_vn _ _ _ _ h']
  · rw [p_vn _ _ _ _ h4', p_vn _ _ _ _ h2', p_vn _ _ _ _ h']
theorem t_glF (H' : t_H) (L' : t_L) (s' r' : Nat → Int32) (m' j' : Nat) (h2' : j' ≠ 2) (h4' : j' ≠ 4) (h' : j' < 25 ∨ 25 + m' ≤ j') : t_gl H' L' s' r' m' j' = r' j' := by
  induction m' with
  | zero => rfl
  | succ m' ih' =>
    rw [t_gl]
    split
    · rw [t_gdF _ _ _ _ _ _ h2' h4' (by omega)]; exact ih' (by omega)
    · exact ih' (by omega)
theorem t_wmN {H' : t_H} {s' : Nat → Int32} (hW' : t_HW H') (hS' : t_WF H' s') : ∃ n', t_wm H' s' = Int32.ofNat n' ∧ n' ≤ 20 := by
  have hnd' := hW'.2.1
  unfold t_wm
  rcases t_dsN hnd' hW'.1 hS' with hd' | ⟨d', hd', hd''⟩
  · rw [if_pos hd']; exact ⟨0, rfl, by omega⟩
  · rw [if_neg (by rw [hd', p_ofN1 d' (by omega)]; exact id), hd', p_nat d' (by omega)]
    obtain ⟨c', h1', h2'⟩ := hW'.2.2.2.2.2.2.2.2.2.1 d' hd''
    obtain ⟨b', h3', h4'⟩ := hW'.2.2.2.2.2.2.2.2.2.2.1
    obtain ⟨-, ⟨h', h5', h6'⟩, -⟩ := hS'
    rw [h1', h3', h5', ← Int32.ofNat_mul]
    have hbh' : b' * h' ≤ 27 := Nat.mul_le_mul h4' h6'
    unfold q_mx
    split
    · rename_i hx'
      by_cases hle' : b' * h' ≤ c'
      · rw [p_osub _ _ hle']; exact ⟨_, rfl, by omega⟩
      · exfalso
        have h7' := p_neg c' (b' * h') (by omega) (by omega)
        exact Int32.lt_asymm hx' h7'
    · exact ⟨0, rfl, by omega⟩
theorem t_plB (H' : t_H) (s' : Nat → Int32) (g' : Nat) : ∃ n', t_pl H' s' g' = Int32.ofNat n' ∧ n' ≤ 2 := by
  unfold t_pl
  cases t_fd H' s' g' <;> cases (t_r H' s' (t_ng H')).2 g'
  · exact ⟨0, rfl, by omega⟩
  · exact ⟨1, rfl, by omega⟩
  · exact ⟨1, rfl, by omega⟩
  · exact ⟨2, rfl, by omega⟩
theorem t_LbN (w' f' a' p' D' : Nat) (l' : Bool) (hw' : w' ≤ 20) (hf' : f' ≤ 2) (ha' : a' ≤ 20) (hp' : p' ≤ 9) (hD' : D' ≤ 2000) : t_Lb (t_lt (Int32.ofNat w') (t_b l') (Int32.ofNat f') (Int32.ofNat D' - Int32.ofNat a') (Int32.ofNat p') (Int32.ofNat D')) := by
  intro j' hj'
  have h1' := p_toI w' (by omega)
  have h2' := p_toI f' (by omega)
  have h3' := p_toI a' (by omega)
  have h4' := p_toI p' (by omega)
  have h5' := p_toI D' (by omega)
  match j', hj' with
  | 0, _ => simp only [t_lt]; omega
  | 1, _ => cases l' <;> simp only [t_lt, t_b] <;> decide
  | 2, _ => simp only [t_lt]; omega
  | 3, _ => simp only [t_lt]; rw [p_tsub _ _ (by omega) (by omega)]; omega
  | 4, _ => simp only [t_lt]; omega
  | 5, _ => simp only [t_lt]; omega
theorem t_hbG {s' : Nat → Int32} (hW' : t_HW H') (hS' : t_WF H' s') (g' : Nat) (hg' : g' < t_ng H') (l' : Bool) : t_Lb (t_lt (t_wm H' s') (t_b l') (t_pl H' s' g') (s' 0 - t_hg H' (g' * 4)) (t_hg H' (g' * 4 + 3)) (s' 0)) := by
  obtain ⟨w', h1', h2'⟩ := t_wmN hW' hS'
  obtain ⟨f', h3', h4'⟩ := t_plB H' s' g'
  obtain ⟨a', h5', h6'⟩ := hW'.2.2.2.2.2.2.2.1 g' hg'
  obtain ⟨p', h7', h8'⟩ := hW'.2.2.2.2.2.2.2.2.1 g' hg'
  obtain ⟨⟨D', h9', h10'⟩, -⟩ := hS'
  rw [h1', h3', h5', h7', h9']
  exact t_LbN w' f' a' p' D' l' h2' h4' h6' h8' h10'
theorem s_passLoop (hB' : p_B X') (hH' : t_HI H' I') (hk' : t_SK k') (hL' : t_LC L' X' I') {s' : Nat → Int32} (h4' : I' 63 4 = t_B (t_tp H' s')) (h7' : I' 63 7 = t_ds H' s') (hd' : t_ds H' s' = -1 ∨ ∃ d', t_ds H' s' = Int32.ofNat d' ∧ d' < t_nd H') (h8' : I' 63 8 = t_wm H' s') (h64' : ∀ g', g' < t_ng H' → I' 64 g' = t_pl H' s' g') (hb' : ∀ g' l', g' < t_ng H' → t_Lb (t_lt (t_wm H' s') (t_b l') (t_pl H' s' g') (s' 0 - t_hg H' (g' * 4)) (t_hg H' (g' * 4 + 3)) (s' 0))) (h00' : I' (k' + 1) 0 = s' 0) :
    ∃ I'', q_lp (fun s' => B_X1_pass_75 63 k' s'.1 s'.2) q_fu (0, (I', X')) = some (I'', X') ∧ (∀ c', c' ≠ 65 → c' ≠ p_sc X' → c' ≠ k' + 1 → I'' c' = I' c') ∧ I'' (k' + 1) = t_gl H' L' s' (I' (k' + 1)) (t_ng H') := by
  have hng' : t_ng H' ≤ 6 := hH'.2.2.2.2.2.2.2
  have hsc' := p_scN hL'
  obtain ⟨e', h1', I'', rfl, h2'⟩ := p_lp (fun s' => B_X1_pass_75 63 k' s'.1 s'.2) (fun i' z' => ∃ J', z' = (Int32.ofNat i', (J', X')) ∧ (∀ c', c' ≠ 65 → c' ≠ p_sc X' → c' ≠ k' + 1 → J' c' = I' c') ∧ J' (k' + 1) = t_gl H' L' s' (I' (k' + 1)) i')
    (fun e' => ∃ I'', e' = (I'', X') ∧ (∀ c', c' ≠ 65 → c' ≠ p_sc X' → c' ≠ k' + 1 → I'' c' = I' c') ∧ I'' (k' + 1) = t_gl H' L' s' (I' (k' + 1)) (t_ng H')) (t_ng H') (by
      rintro i' z' hi' ⟨J', rfl, j1', j2'⟩
      have hH'' : t_HI H' J' := t_HIk hH' (fun c' h1' h2' => j1' c' (by omega) (by omega) (by omega))
      have hL'' : t_LC L' X' J' := t_LCk hL' (fun c' h1' h2' => j1' c' (by omega) h2' (by omega))
      have hn' : J' 39 5 = Int32.ofNat (t_ng H') := hH''.2.2.2.2.2.1
      have h63' : J' 63 = I' 63 := j1' _ (by omega) (by omega) (by omega)
      have h64'' : J' 64 = I' 64 := j1' _ (by omega) (by omega) (by omega)
      by_cases hlt' : i' < t_ng H'
      · left
        have hbit : t_bit (J' 63 4) i' = t_tp H' s' i' := by rw [h63', h4', t_BA _ _ (by omega)]
        obtain ⟨J2', b1', b2', b3'⟩ := s_gladden hB' hH'' hk' hL'' (s' := s') i' hlt' (by rw [h63']; exact h7') hd' (by rw [h63']; exact h8') (by rw [h64'']; exact h64' i' hlt') (fun l' => by rw [j2', t_glF _ _ _ _ _ _ (by omega) (by omega) (by omega), h00']; exact hb' i' l' hlt')
        unfold B_X1_pass_75 J_X1_pass_103_75
        simp (disch := omega) only [↓ce_63 hB', rf_63 hB', ↓ce_39 hB', rf_39 hB', ↓nn_40, ↓nn_41, ↓nn_42, ↓nn_43, ↓nn_44, ↓nn_65, ↓nn_66, p_bs, p_rq0, p_rq1, p_rz0, p_rz1, p_us, p_un, p_uj, ↓reduceIte, hn', p_lt, hlt', t_bitE, hbit, b1', p_ar]
        cases hx' : t_tp H' s' i'
        · refine ⟨_, by simp only [↓reduceIte], True.intro, J', rfl, j1', ?_⟩
          rw [t_gl, if_neg (by rw [hx']; exact Bool.false_ne_true), j2']
        · refine ⟨_, by simp only [Bool.true_eq_false, ↓reduceIte], True.intro, J2', rfl, ?_, ?_⟩
          · intro c' c1' c2' c3'; rw [b2' c' c1' c2' c3', j1' c' c1' c2' c3']
          · rw [t_gl, if_pos hx', b3', j2']
      · right
        have hi'' : i' = t_ng H' := by omega
        subst hi''
        refine ⟨_, ?_, J', rfl, j1', j2'⟩
        unfold B_X1_pass_75
        simp (disch := omega) only [↓ce_63 hB', rf_63 hB', ↓ce_39 hB', rf_39 hB', ↓nn_40, ↓nn_41, ↓nn_42, ↓nn_43, ↓nn_44, ↓nn_65, ↓nn_66, p_bs, p_rq0, p_rq1, p_rz0, p_rz1, p_us, p_un, p_uj, ↓reduceIte, hn', p_lt, Nat.lt_irrefl]) (t_ng H') 0 q_fu (0, (I', X')) (by omega) (by unfold q_fu; omega) ⟨I', rfl, fun _ _ _ _ => rfl, rfl⟩
  exact ⟨I'', h1', h2'⟩
theorem s_pass (hB' : p_B X') (hH' : t_HI H' I') (hW' : t_HW H') (hk' : t_SK k') (hS' : t_WF H' (I' (k' + 1))) (hL' : t_LC L' X' I') :
    ∃ I'', F_X1_pass 63 k' (I', X') = some ((), I'', X') ∧ (∀ c', c' ≠ 63 → c' ≠ 64 → c' ≠ 65 → c' ≠ p_sc X' → c' ≠ k' + 1 → I'' c' = I' c') ∧ t_EV H' (I' (k' + 1)) I'' ∧ I'' (k' + 1) = t_ps H' L' (I' (k' + 1)) := by
  have hnd' : t_nd H' ≤ 5 := hW'.2.1
  have hsc' := p_scN hL'
  obtain ⟨I1', a1', a2', a3'⟩ := s_lay hB' hH' hW' hk' hS'
  have e1' : I1' (k' + 1) = I' (k' + 1) := a2' _ (by omega) (by omega)
  have hH1' : t_HI H' I1' := t_HIk hH' (fun c' h1' h2' => a2' c' (by omega) (by omega))
  obtain ⟨n', x1', x2', x3'⟩ := p_a3 (I' (k' + 1) 0)
  obtain ⟨d', y1', y2'⟩ := t_ckN hnd' hW'.1 hS'
  have hsv' := a3'
  obtain ⟨v4', v5', v6', v7', v8', v9', v10', v11', v12'⟩ := hsv'
  unfold F_X1_pass
  simp (disch := omega) only [↓ce_63 hB', rf_63 hB', ↓nn_40, ↓nn_65, ↓nn_66, p_bs, p_rq0, p_rq1, p_rz0, p_rz1, p_us, p_un, p_uj, ↓reduceIte, a1', p_st hk' hB', e1', x2', p_ar, v5', v6']
  have hH2' : t_HI H' (q_u2 (q_u2 I1' (k' + 1) (5 + n') (t_ck H' (I' (k' + 1)))) (k' + 1) (9 + n') (t_pn H' (I' (k' + 1)))) := t_HIk hH1' (fun c' h1' h2' => by simp (disch := omega) only [p_uc])
  have hD' : F_X3_ofDish 39 (t_ck H' (I' (k' + 1))) 1 (q_u2 (q_u2 I1' (k' + 1) (5 + n') (t_ck H' (I' (k' + 1)))) (k' + 1) (9 + n') (t_pn H' (I' (k' + 1))), X') = some (t_hd H' (d' * 3 + 1)) := by
    rw [show F_X3_ofDish 39 (t_ck H' (I' (k' + 1))) 1 = F_X3_ofDish 39 (Int32.ofNat d') 1 by rw [y1']]
    exact s_ofDish hB' hH2' d' 1 (by omega) (by omega)
  simp (disch := omega) only [↓ce_39 hB', rf_39 hB', ↓nn_41, ↓nn_42, ↓nn_43, ↓nn_44, p_bs, p_rq0, p_rq1, p_rz0, p_rz1, p_us, p_un, p_uj, ↓reduceIte, hD', p_st hk' hB']
  have e2' : ∀ v', (q_u2 (q_u2 (q_u2 I1' (k' + 1) (5 + n') (t_ck H' (I' (k' + 1)))) (k' + 1) (9 + n') (t_pn H' (I' (k' + 1)))) (k' + 1) 2 v') (k' + 1) = va_up (va_up (va_up (I' (k' + 1)) (5 + n') (t_ck H' (I' (k' + 1)))) (9 + n') (t_pn H' (I' (k' + 1)))) 2 v' := by
    intro v'; rw [p_ur, p_ur, p_ur, e1']
  obtain ⟨I2', b1', b2', b3'⟩ := s_passLoop (I' := q_u2 (q_u2 (q_u2 I1' (k' + 1) (5 + n') (t_ck H' (I' (k' + 1)))) (k' + 1) (9 + n') (t_pn H' (I' (k' + 1)))) (k' + 1) 2 (q_mx 0 (I' (k' + 1) 2 - t_pn H' (I' (k' + 1)) * t_hd H' (d' * 3 + 1)))) (s' := I' (k' + 1)) (L' := L') hB' (t_HIk hH1' (fun c' h1' h2' => by simp (disch := omega) only [p_uc])) hk' (t_LCk hL' (fun c' h1' h2' => by simp (disch := omega) only [p_uc]; exact a2' c' (by omega) (by omega))) (by simp (disch := omega) only [p_uc]; exact v4') (by simp (disch := omega) only [p_uc]; exact v7') (t_dsN hnd' hW'.1 hS') (by simp (disch := omega) only [p_uc]; exact v8') (by simp (disch := omega) only [p_uc]; exact v12') (fun g' l' hg' => t_hbG hW' hS' g' hg' l') (by rw [e2']; simp (disch := omega) only [p_vn])
  rw [e2'] at b3'
  have hp1' : t_p1 H' (I' (k' + 1)) = va_up (va_up (va_up (I' (k' + 1)) (5 + n') (t_ck H' (I' (k' + 1)))) (9 + n') (t_pn H' (I' (k' + 1)))) 2 (q_mx 0 (I' (k' + 1) 2 - t_pn H' (I' (k' + 1)) * t_hd H' (d' * 3 + 1))) := by
    unfold t_p1
    rw [x3', y1', p_nat d' (by omega)]
  simp (disch := omega) only [↓ce_63 hB', rf_63 hB', ↓nn_40, ↓nn_65, ↓nn_66, p_bs, p_rq0, p_rq1, p_rz0, p_rz1, p_us, p_un, p_uj, ↓reduceIte, p_st hk' hB', e1', b1']
  refine ⟨_, rfl, ?_, ?_, ?_⟩
  · intro c' c1' c2' c3' c4' c5'; rw [p_uc _ _ _ _ _ c5', p_uc _ _ _ _ _ c5', b2' c' c3' c4' c5']; simp (disch := omega) only [p_uc]; exact a2' c' c1' c2'
  · unfold t_EV
    have f63' : I2' 63 = I1' 63 := by rw [b2' 63 (by omega) (by omega) (by omega)]; simp (disch := omega) only [p_uc]
    have f64' : I2' 64 = I1' 64 := by rw [b2' 64 (by omega) (by omega) (by omega)]; simp (disch := omega) only [p_uc]
    simp (disch := omega) only [p_uc, f63', f64']
    exact a3'
  · rw [p_ur, p_ur, b3', ← hp1']
    rfl
end PD'
