/-! text: a week -/
/-- cells and references of another memory's shape, but for some -/
def p_EX (E' : Nat → Nat → Prop) (X' Y' : p_X) : Prop := (∀ k', k' < X'.2.2.length → Y'.2.2[k']? = X'.2.2[k']?) ∧ (∀ k' j', k' < X'.2.2.length → ¬ E' k' j' → Y'.2.1 k' j' = X'.2.1 k' j')
theorem p_gl {X' : p_X} {k' : Nat} {h' : q_Sh} (e' : X'.2.2[k']? = some h') : k' < X'.2.2.length := (List.getElem?_eq_some_iff.mp e').1
theorem p_len {X' : p_X} (hB' : p_B X') : 109 ≤ X'.2.2.length := p_gl (sh_108 hB')
theorem p_BE {E' : Nat → Nat → Prop} {X' Y' : p_X} (hB' : p_B X') (h' : p_EX E' X' Y') (hE' : ∀ z' ∈ p_rfT, ¬ E' z'.1 z'.2.1) : p_B Y' := by
  have hN' := p_len hB'
  have k1' : ∀ z' ∈ p_shT, z'.1 < 109 := by decide
  have k2' : ∀ z' ∈ p_rfT, z'.1 < 109 := by decide
  exact ⟨fun z' hz' => by rw [h'.1 _ (by have := k1' z' hz'; omega)]; exact hB'.1 z' hz', fun z' hz' => by rw [h'.2 _ _ (by have := k2' z' hz'; omega) (hE' z' hz')]; exact hB'.2 z' hz'⟩
theorem t_LOE {E' : Nat → Nat → Prop} {X' Y' : p_X} {lw' L' : Nat} (h' : t_LO lw' L' X') (hx' : p_EX E' X' Y') (hE' : ∀ j', ¬ E' lw' j') : t_LO lw' L' Y' := by
  obtain ⟨h1', h2', h3', h4', h5', h6', h7'⟩ := h'
  exact ⟨by rw [hx'.1 _ (p_gl h1')]; exact h1', by rw [hx'.2 _ _ (p_gl h1') (hE' _)]; exact h2', by rw [hx'.2 _ _ (p_gl h1') (hE' _)]; exact h3', by rw [hx'.1 _ (p_gl h4')]; exact h4', by rw [hx'.1 _ (p_gl h5')]; exact h5', h6', h7'⟩
theorem t_WSE {E' : Nat → Nat → Prop} {X' Y' : p_X} {wd' : Nat} (h' : t_WS wd' X') (hx' : p_EX E' X' Y') (hE' : ∀ j', ¬ E' wd' j') : t_WS wd' Y' := by
  obtain ⟨h1', h2', h3', h4', h5'⟩ := h'
  exact ⟨by rw [hx'.1 _ (p_gl h1')]; exact h1', by rw [hx'.2 _ _ (p_gl h1') (hE' _)]; exact h2', by rw [hx'.1 _ (p_gl h3')]; exact h3', h4', h5'⟩
theorem p_vuN {α : Type} (f' : Nat → Nat → α) (k' : Nat) (g' : Nat → α) (k'' : Nat) (h' : k'' ≠ k') : va_up f' k' g' k'' = f' k'' := if_neg h'
theorem p_vuS {α : Type} (f' : Nat → Nat → α) (k' : Nat) (g' : Nat → α) : va_up f' k' g' k' = g' := if_pos rfl
theorem p_uS (f' : Nat → Nat → Nat) (k' j' v' : Nat) : q_u2 f' k' j' v' k' j' = v' := by simp [q_u2, va_up]
/-- the steps of a week are known ones -/
theorem t_wkQ {β : Nat → Nat} {n' : Nat} : ∀ (f' e' i' : Nat) (rows : Nat → Int32) (m' : Nat) (rows' : Nat → Int32), t_wk β n' f' e' i' rows = .inr (m', rows') → (∀ j', j' < i' → ∃ q', q' < 5 ∧ rows (3 * j') = Int32.ofNat q') → ∀ j', j' < m' → ∃ q', q' < 5 ∧ rows' (3 * j') = Int32.ofNat q' := by
  intro f'
  induction f' with
  | zero => intro e' i' rows m' rows' h'; rw [t_wk] at h'; cases h'
  | succ f' ih' =>
    intro e' i' rows m' rows' h' hr'
    rw [t_wk] at h'
    split at h'
    · cases h'
    · rename_i x' a' b' c' hst'
      have ha' : ∃ q', q' < 5 ∧ a' = Int32.ofNat q' := by
        unfold t_stp at hst'
        split at hst'
        · cases hst'
        · rename_i k' hk'
          have hk5' := (t_paB hk').2.1
          split at hst'
          · split at hst'
            · cases hst'; exact ⟨k', hk5', rfl⟩
            · cases hst'
          · split at hst'
            · split at hst'
              · split at hst'
                · cases hst'; exact ⟨k', hk5', rfl⟩
                · cases hst'
              · cases hst'
            · cases hst'; exact ⟨k', hk5', rfl⟩
      have hr3' : ∀ j', j' < i' + 1 → ∃ q', q' < 5 ∧ t_r3 rows i' a' b' c' (3 * j') = Int32.ofNat q' := fun j' hj' => by
        unfold t_r3
        by_cases e' : j' = i'
        · rw [e', if_pos rfl]; exact ha'
        · rw [if_neg (by omega), if_neg (by omega), if_neg (by omega)]; exact hr' j' (by omega)
      split at h'
      · split at h'
        · cases h'
        · split at h'
          · exact ih' _ _ _ _ _ h' hr3'
          · cases h'
      · cases h'
        exact hr3'
section PT'
variable {X' : p_X} {I' : p_I}
theorem s_wkcp (hB' : p_B X') {wc' : Nat} (hwc' : wc' < 4) (h30' : I' 87 30 = Int32.ofNat wc') : ∃ J', q_lp (fun z' => B_X12_text_137 87 z'.1 z'.2) q_fu ((0 : Int32), (I', X')) = some (J', X') ∧ (∀ c', c' ≠ 98 → J' c' = I' c') ∧ (∀ j', ¬ (48 * wc' ≤ j' ∧ j' < 48 * wc' + 48) → J' 98 j' = I' 98 j') ∧ (∀ j', j' < 48 → J' 98 (48 * wc' + j') = I' 98 (192 + j')) := by
  obtain ⟨z', h1', J', rfl, j1', j2', j3'⟩ := p_lp (fun z' => B_X12_text_137 87 z'.1 z'.2) (fun i' z' => ∃ J', z' = (Int32.ofNat i', (J', X')) ∧ (∀ c', c' ≠ 98 → J' c' = I' c') ∧ (∀ j', ¬ (48 * wc' ≤ j' ∧ j' < 48 * wc' + 48) → J' 98 j' = I' 98 j') ∧ (∀ j', j' < i' → J' 98 (48 * wc' + j') = I' 98 (192 + j')))
    (fun z' => ∃ J', z' = (J', X') ∧ (∀ c', c' ≠ 98 → J' c' = I' c') ∧ (∀ j', ¬ (48 * wc' ≤ j' ∧ j' < 48 * wc' + 48) → J' 98 j' = I' 98 j') ∧ (∀ j', j' < 48 → J' 98 (48 * wc' + j') = I' 98 (192 + j'))) 48 (by
      rintro i' z' hi' ⟨J', rfl, j1', j2', j3'⟩
      have hl' : (Int32.ofNat i' < 48) = (i' < 48) := p_lt i' 48 (by omega) (by decide)
      have l30' : J' 87 30 = Int32.ofNat wc' := by rw [j1' 87 (by decide)]; exact h30'
      have h48' : (48 : Int32) * Int32.ofNat wc' = Int32.ofNat (48 * wc') := by rw [show (48 : Int32) = Int32.ofNat 48 from rfl, ← Int32.ofNat_mul]
      have h192 : (192 : Int32) + Int32.ofNat i' = Int32.ofNat (192 + i') := (Int32.ofNat_add 192 i').symm
      have hsm' : Int32.ofNat (48 * wc') + Int32.ofNat i' = Int32.ofNat (48 * wc' + i') := (Int32.ofNat_add _ _).symm
      unfold B_X12_text_137
      by_cases hlt' : i' < 48
      · left
        simp (disch := omega) only [↓ce_87 hB', rf_87 hB', ↓ce_98 hB', ↓nn_31, ↓nn_33, ↓nn_89, ↓nn_90, ↓nn_91, ↓nn_92, ↓nn_93, ↓nn_94, ↓nn_95, ↓nn_96, ↓nn_97, ↓nn_98, ↓nn_99, ↓nn_100, ↓nn_101, ↓nn_102, ↓nn_103, ↓nn_104, ↓nn_105, ↓nn_106, ↓nn_107, ↓nn_108, p_bs, p_rq0, p_rq1, p_rz0, p_rz1, p_us, p_un, p_uj, ↓reduceIte, hl', hlt', l30', h48', h192, hsm', p_ar]
        refine ⟨_, rfl, True.intro, _, rfl, fun c' hc' => by rw [p_uc _ _ _ _ _ hc']; exact j1' c' hc', fun j' hj' => by rw [p_uj _ _ _ _ _ (by omega)]; exact j2' j' hj', fun j' hj' => ?_⟩
        by_cases e' : j' = i'
        · subst e'; rw [p_us]; exact j2' _ (by omega)
        · rw [p_uj _ _ _ _ _ (by omega)]; exact j3' j' (by omega)
      · right
        have hi'' : i' = 48 := by omega
        subst hi''
        simp (disch := omega) only [p_bs, p_rq0, p_rq1, p_rz0, p_rz1, p_us, p_un, p_uj, ↓reduceIte, hl', Nat.lt_irrefl]
        exact ⟨_, rfl, J', rfl, j1', j2', j3'⟩) 48 0 q_fu (0, (I', X')) (by omega) (by unfold q_fu; omega) ⟨I', rfl, fun _ _ => rfl, fun _ _ => rfl, fun j' hj' => absurd hj' (by omega)⟩
  exact ⟨J', h1', j1', j2', j3'⟩
end PT'
