/-! text: a house; what its numbers are -/
def yq_GH (h' : t_hs) : Prop := (h'.1 0 ≤ 3 ∧ h'.1 1 ≤ 9) ∧ (∀ d', d' < h'.2.2.2.1 → h'.2.1 (3 * d') ≤ 20 ∧ h'.2.1 (3 * d' + 1) ≤ 9) ∧ (∀ g', g' < h'.2.2.2.2.1 → h'.2.2.1 (4 * g') ≤ 20 ∧ h'.2.2.1 (4 * g' + 1) ≤ 20 ∧ h'.2.2.1 (4 * g' + 3) ≤ 9) ∧ h'.2.2.2.1 ≤ 5 ∧ h'.2.2.2.2.1 ≤ 6
section PV'
variable {β : Nat → Nat} {n' : Nat}
theorem t_itB {ts' : Nat → Nat} {m' : Nat} {lo' hi' : Nat → Nat} : ∀ (f' e' : Nat) (had' : Nat → Bool) (row' : Nat → Nat) (x' : Nat) (row'' : Nat → Nat), e' ≤ n' → t_it β n' ts' m' lo' hi' f' e' had' row' = .inr (x', row'') → (∀ k', k' < m' → row' k' ≤ hi' k') → x' ≤ n' ∧ (∀ k', k' < m' → row'' k' ≤ hi' k') := by
  intro f'
  induction f' with
  | zero => intro e' had' row' x' row'' he' h'; rw [t_it] at h'; cases h'
  | succ f' ih' =>
    intro e' had' row' x' row'' he' h' hr'
    have hsk' := t_skU β n' e' he'
    rw [t_it] at h'
    split at h'
    · cases h'; exact ⟨hsk', hr'⟩
    · rename_i k' hk'
      have hkm' := t_paB hk'
      split at h'
      · cases h'
      · split at h'
        · cases h'
        · rename_i y' v' hv'
          have hb' := (t_nmB (β := β) (n' := n') (d' := 2) (lo' := lo' k') (hi' := hi' k') (e' := t_sk β n' e' + 1) (by omega)).2 _ _ hv'
          exact ih' _ _ _ _ _ (by omega) h' (fun j' hj' => by
            by_cases e' : j' = k'
            · rw [if_pos e', e']; exact hb'.2.2.2
            · rw [if_neg e']; exact hr' j' hj')
theorem t_claB {e' x' : Nat} {h' h'' : t_hs} (he' : e' ≤ n') (hc' : t_cla β n' e' h' = .inr (x', h'')) (hG' : yq_GH h') : x' ≤ n' ∧ yq_GH h'' := by
  have hsk' := t_skU β n' e' he'
  obtain ⟨g1', g2', g3', g4', g5'⟩ := hG'
  have his' : ∀ c', t_is β n' (t_sk β n' e') c' = true → t_sk β n' e' < n' := fun c' h' => by
    unfold t_is at h'
    simp only [Bool.and_eq_true, decide_eq_true_eq] at h'
    exact h'.1
  unfold t_cla at hc'
  split at hc'
  · rename_i c1'
    have hlt' := his' _ c1'.1
    split at hc'
    · cases hc'
    · rename_i y' row' hr'
      have hb' := t_itB (m' := 3) _ _ _ _ _ _ (by omega) hr' (by decide)
      cases hc'
      exact ⟨hb'.1, ⟨hb'.2 0 (by decide), hb'.2 1 (by decide)⟩, g2', g3', g4', g5'⟩
  · split at hc'
    · rename_i c1'
      have hlt' := his' _ c1'.1
      split at hc'
      · cases hc'
      · rename_i y' row' hr'
        have hb' := t_itB (m' := 3) _ _ _ _ _ _ (by omega) hr' (by decide)
        cases hc'
        refine ⟨hb'.1, g1', fun d' hd' => ?_, g3', by have := c1'.2; show h'.2.2.2.1 + 1 ≤ 5; omega, g5'⟩
        have hd'' : d' < h'.2.2.2.1 + 1 := hd'
        show t_put h'.2.1 (3 * h'.2.2.2.1) 3 row' (3 * d') ≤ 20 ∧ t_put h'.2.1 (3 * h'.2.2.2.1) 3 row' (3 * d' + 1) ≤ 9
        unfold t_put
        by_cases ed' : d' = h'.2.2.2.1
        · rw [if_pos (by omega), if_pos (by omega), show 3 * d' - 3 * h'.2.2.2.1 = 0 by omega, show 3 * d' + 1 - 3 * h'.2.2.2.1 = 1 by omega]
          exact ⟨hb'.2 0 (by decide), hb'.2 1 (by decide)⟩
        · rw [if_neg (by omega), if_neg (by omega)]
          exact g2' d' (by omega)
    · split at hc'
      · rename_i c1'
        have hlt' := his' _ c1'.1
        split at hc'
        · cases hc'
        · rename_i y' row' hr'
          have hb' := t_itB (m' := 4) _ _ _ _ _ _ (by omega) hr' (by decide)
          cases hc'
          refine ⟨hb'.1, g1', g2', fun d' hd' => ?_, g4', by have := c1'.2; show h'.2.2.2.2.1 + 1 ≤ 6; omega⟩
          have hd'' : d' < h'.2.2.2.2.1 + 1 := hd'
          show t_put h'.2.2.1 (4 * h'.2.2.2.2.1) 4 row' (4 * d') ≤ 20 ∧ t_put h'.2.2.1 (4 * h'.2.2.2.2.1) 4 row' (4 * d' + 1) ≤ 20 ∧ t_put h'.2.2.1 (4 * h'.2.2.2.2.1) 4 row' (4 * d' + 3) ≤ 9
          unfold t_put
          by_cases ed' : d' = h'.2.2.2.2.1
          · rw [if_pos (by omega), if_pos (by omega), if_pos (by omega), show 4 * d' - 4 * h'.2.2.2.2.1 = 0 by omega, show 4 * d' + 1 - 4 * h'.2.2.2.2.1 = 1 by omega, show 4 * d' + 3 - 4 * h'.2.2.2.2.1 = 3 by omega]
            exact ⟨hb'.2 0 (by decide), hb'.2 1 (by decide), hb'.2 3 (by decide)⟩
          · rw [if_neg (by omega), if_neg (by omega), if_neg (by omega)]
            exact g3' d' (by omega)
      · cases hc'
theorem t_houB : ∀ (f' e' : Nat) (h' hs' : t_hs), e' ≤ n' → t_hou β n' f' e' h' = .inr hs' → yq_GH h' → yq_GH hs' ∧ 0 < hs'.2.2.2.1 ∧ 0 < hs'.2.2.2.2.1 := by
  intro f'
  induction f' with
  | zero => intro e' h' hs' he' hc'; rw [t_hou] at hc'; cases hc'
  | succ f' ih' =>
    intro e' h' hs' he' hc' hG'
    rw [t_hou] at hc'
    split at hc'
    · cases hc'
    · rename_i x' h'' hcl'
      obtain ⟨b1', b2'⟩ := t_claB he' hcl' hG'
      have hsk' := t_skU β n' x' b1'
      split at hc'
      · split at hc'
        · exact ih' _ _ _ (by omega) hc' b2'
        · cases hc'
      · split at hc'
        · rename_i c1'
          cases hc'
          exact ⟨b2', c1'⟩
        · cases hc'
theorem yq_GH0 : yq_GH t_h0 := ⟨⟨by decide, by decide⟩, fun d' hd' => absurd hd' (Nat.not_lt_zero d'), fun d' hd' => absurd hd' (Nat.not_lt_zero d'), by decide, by decide⟩
end PV'
/-! the order of coming -/
theorem yq_cnA {P' P'' : Nat → Bool} {g' : Nat} (h' : ∀ x', x' ≠ g' → P'' x' = P' x') (h1' : P' g' = false) (h2' : P'' g' = true) (n' : Nat) : t_cn P'' n' = t_cn P' n' + (if g' < n' then 1 else 0) := by
  induction n' with
  | zero => rfl
  | succ n' ih' =>
    rw [t_cn, t_cn, ih']
    by_cases e' : n' = g'
    · subst e'
      rw [h1', h2']
      simp
    · rw [h' n' e']
      by_cases e2' : g' < n'
      · have e3' : g' < n' + 1 := by omega
        rw [if_pos e2', if_pos e3']; omega
      · have e3' : ¬ g' < n' + 1 := by omega
        rw [if_neg e2', if_neg e3']; omega
theorem yq_cnF {P' : Nat → Bool} {g' n' : Nat} (hg' : g' < n') (h' : P' g' = false) : t_cn P' n' < n' := by
  have h1' := yq_cnA (P' := P') (P'' := fun x' => P' x' || x' == g') (g' := g') (fun x' hx' => by simp [hx']) h' (by simp) n'
  have h2' := t_cnL (fun x' => P' x' || x' == g') n'
  rw [if_pos hg'] at h1'
  omega
theorem yq_cnT {P' : Nat → Bool} {n' : Nat} (h' : ∀ g', g' < n' → P' g' = true) : t_cn P' n' = n' := by
  induction n' with
  | zero => rfl
  | succ n' ih' => rw [t_cn, ih' (fun g' hg' => h' g' (by omega)), h' n' (by omega), if_pos rfl]
/-- ahead of day d and guest g -/
def yq_ah (cm' : Nat → Nat) (d' g' x' : Nat) : Bool := decide (cm' x' < d') || (decide (cm' x' = d') && decide (x' < g'))
def yq_OR (cm' : Nat → Nat) (ng' d' g' k' : Nat) (ho' : Nat → Nat) : Prop := k' = t_cn (yq_ah cm' d' g') ng' ∧ (∀ i', i' < k' → ho' i' < ng' ∧ yq_ah cm' d' g' (ho' i') = true) ∧ (∀ i' j', i' < j' → j' < k' → cm' (ho' i') < cm' (ho' j') ∨ (cm' (ho' i') = cm' (ho' j') ∧ ho' i' < ho' j')) ∧ (∀ x', x' < ng' → yq_ah cm' d' g' x' = true → ∃ i', i' < k' ∧ ho' i' = x')
theorem yq_ahS {cm' : Nat → Nat} {d' g' x' : Nat} (h' : cm' g' ≠ d') : yq_ah cm' d' (g' + 1) x' = yq_ah cm' d' g' x' := by
  unfold yq_ah
  by_cases e' : x' = g'
  · subst e'; simp [h']
  · have : (x' < g' + 1) = (x' < g') := by rw [eq_iff_iff]; omega
    simp [this]
theorem yq_ORn {cm' : Nat → Nat} {ng' d' g' k' : Nat} {ho' : Nat → Nat} (h' : yq_OR cm' ng' d' g' k' ho') (hc' : cm' g' ≠ d') : yq_OR cm' ng' d' (g' + 1) k' ho' := by
  have e' : yq_ah cm' d' (g' + 1) = yq_ah cm' d' g' := funext fun x' => yq_ahS hc'
  unfold yq_OR
  rw [e']
  exact h'
theorem yq_ORs {cm' : Nat → Nat} {ng' d' g' k' : Nat} {ho' : Nat → Nat} (h' : yq_OR cm' ng' d' g' k' ho') (hg' : g' < ng') (hc' : cm' g' = d') : k' < ng' ∧ yq_OR cm' ng' d' (g' + 1) (k' + 1) (fun i' => if i' = k' then g' else ho' i') := by
  obtain ⟨h1', h2', h3', h4'⟩ := h'
  have hf' : yq_ah cm' d' g' g' = false := by unfold yq_ah; simp [hc']
  have ht' : yq_ah cm' d' (g' + 1) g' = true := by unfold yq_ah; simp [hc']
  have ho'' : ∀ x', x' ≠ g' → yq_ah cm' d' (g' + 1) x' = yq_ah cm' d' g' x' := fun x' hx' => by
    unfold yq_ah
    have : (x' < g' + 1) = (x' < g') := by rw [eq_iff_iff]; omega
    simp [this]
  have hk' : k' < ng' := by rw [h1']; exact yq_cnF hg' hf'
  have hmono : ∀ x', yq_ah cm' d' g' x' = true → yq_ah cm' d' (g' + 1) x' = true := fun x' hx' => by
    by_cases e' : x' = g'
    · rw [e']; exact ht'
    · rw [ho'' x' e']; exact hx'
  refine ⟨hk', ?_, fun i' hi' => ?_, fun i' j' hij' hj' => ?_, fun x' hx' hax' => ?_⟩
  · rw [yq_cnA ho'' hf' ht' ng', if_pos hg', h1']
  · show (if i' = k' then g' else ho' i') < ng' ∧ yq_ah cm' d' (g' + 1) (if i' = k' then g' else ho' i') = true
    by_cases e' : i' = k'
    · rw [if_pos e']; exact ⟨hg', ht'⟩
    · rw [if_neg e']; exact ⟨(h2' i' (by omega)).1, hmono _ (h2' i' (by omega)).2⟩
  · show cm' (if i' = k' then g' else ho' i') < cm' (if j' = k' then g' else ho' j') ∨ (cm' (if i' = k' then g' else ho' i') = cm' (if j' = k' then g' else ho' j') ∧ (if i' = k' then g' else ho' i') < (if j' = k' then g' else ho' j'))
    rw [if_neg (show ¬ i' = k' by omega)]
    by_cases e' : j' = k'
    · rw [if_pos e']
      have := (h2' i' (by omega)).2
      unfold yq_ah at this
      simp only [Bool.or_eq_true, Bool.and_eq_true, decide_eq_true_eq] at this
      omega
    · rw [if_neg e']; exact h3' i' j' hij' (by omega)
  · by_cases e' : x' = g'
    · exact ⟨k', by omega, by
        show (if k' = k' then g' else ho' k') = x'
        rw [if_pos rfl, e']⟩
    · rw [ho'' x' e'] at hax'
      obtain ⟨i', hi', hix'⟩ := h4' x' hx' hax'
      exact ⟨i', by omega, by
        show (if i' = k' then g' else ho' i') = x'
        rw [if_neg (by omega)]; exact hix'⟩
theorem yq_ORd {cm' : Nat → Nat} {ng' d' k' : Nat} {ho' : Nat → Nat} (h' : yq_OR cm' ng' d' ng' k' ho') : yq_OR cm' ng' (d' + 1) 0 k' ho' := by
  have e' : ∀ x', x' < ng' → yq_ah cm' (d' + 1) 0 x' = yq_ah cm' d' ng' x' := fun x' hx' => by
    unfold yq_ah
    rw [Bool.eq_iff_iff]
    simp only [Bool.or_eq_true, Bool.and_eq_true, decide_eq_true_eq]
    omega
  obtain ⟨h1', h2', h3', h4'⟩ := h'
  exact ⟨by rw [h1']; exact (t_cnC _ _ _ e').symm, fun i' hi' => ⟨(h2' i' hi').1, by rw [e' _ (h2' i' hi').1]; exact (h2' i' hi').2⟩, h3', fun x' hx' hax' => h4' x' hx' (by rw [← e' x' hx']; exact hax')⟩
section PV'
variable {X' : p_X} {I' : p_I}
theorem s_order (hB' : p_B X') {ng' : Nat} (hng' : ng' ≤ 6) {cm' : Nat → Nat} (h5' : I' 39 5 = Int32.ofNat ng') (h21' : I' 2 1 = 20) (hcm' : ∀ g', g' < ng' → I' 42 (g' * 4) = Int32.ofNat (cm' g') ∧ cm' g' ≤ 20) : ∃ J' ho', F_X3_orderByComing 39 (I', X') = some ((), (J', X')) ∧ (∀ c', c' ≠ 43 → J' c' = I' c') ∧ (∀ i', i' < ng' → J' 43 i' = Int32.ofNat (ho' i')) ∧ yq_OR cm' ng' 21 0 ng' ho' := by
  have hgo' : ∀ (J' : p_I) (g' : Nat), (∀ c', c' ≠ 43 → J' c' = I' c') → g' < ng' → F_X3_ofGuest 39 (Int32.ofNat g') 0 (J', X') = some (Int32.ofNat (cm' g')) := fun J' g' hJ' hg' => by
    have e42' : J' 42 (g' * 4 + 0) = Int32.ofNat (cm' g') := by rw [hJ' 42 (by decide), Nat.add_zero]; exact (hcm' g' hg').1
    unfold F_X3_ofGuest
    simp (disch := omega) only [↓ce_39 hB', rf_39 hB', ↓ce_42 hB', ↓nn_41, ↓nn_42, ↓nn_43, ↓nn_44, p_bs, p_rq0, p_rq1, p_rz0, p_rz1, p_us, p_un, p_uj, ↓reduceIte, p_ar, p_cm]
    rw [if_neg (by omega), if_pos (by omega)]
    simp (disch := omega) only [↓ce_39 hB', rf_39 hB', ↓ce_42 hB', ↓nn_41, ↓nn_42, ↓nn_43, ↓nn_44, p_bs, p_rq0, p_rq1, p_rz0, p_rz1, p_us, p_un, p_uj, ↓reduceIte, e42']
  have inner : ∀ (d' : Nat) (J0' : p_I) (k0' : Nat) (ho0' : Nat → Nat), d' ≤ 20 → (∀ c', c' ≠ 43 → J0' c' = I' c') → (∀ i', i' < k0' → J0' 43 i' = Int32.ofNat (ho0' i')) → yq_OR cm' ng' d' 0 k0' ho0' → ∃ J' k' ho', q_lp (fun z' => B_X3_orderByComing_15 39 (Int32.ofNat d') z'.1 z'.2.1 z'.2.2) q_fu (Int32.ofNat k0', (0 : Int32), (J0', X')) = some (Int32.ofNat k', (J', X')) ∧ (∀ c', c' ≠ 43 → J' c' = I' c') ∧ (∀ i', i' < k' → J' 43 i' = Int32.ofNat (ho' i')) ∧ yq_OR cm' ng' d' ng' k' ho' := by
    intro d' J0' k0' ho0' hd' f0' g0' o0'
    obtain ⟨z', h1', J', k', ho', rfl, j1', j2', j3'⟩ := p_lp (fun z' => B_X3_orderByComing_15 39 (Int32.ofNat d') z'.1 z'.2.1 z'.2.2) (fun g' z' => ∃ J' k' ho', z' = (Int32.ofNat k', Int32.ofNat g', (J', X')) ∧ (∀ c', c' ≠ 43 → J' c' = I' c') ∧ (∀ i', i' < k' → J' 43 i' = Int32.ofNat (ho' i')) ∧ yq_OR cm' ng' d' g' k' ho')
      (fun z' => ∃ J' k' ho', z' = (Int32.ofNat k', (J', X')) ∧ (∀ c', c' ≠ 43 → J' c' = I' c') ∧ (∀ i', i' < k' → J' 43 i' = Int32.ofNat (ho' i')) ∧ yq_OR cm' ng' d' ng' k' ho') ng' (by
        rintro g' z' hg' ⟨J', k', ho', rfl, j1', j2', j3'⟩
        have n5' : J' 39 5 = Int32.ofNat ng' := by rw [j1' 39 (by decide)]; exact h5'
        have hl' : (Int32.ofNat g' < Int32.ofNat ng') = (g' < ng') := p_lt _ _ (by omega) (by omega)
        unfold B_X3_orderByComing_15 J_X3_orderByComing_49_15
        by_cases hlt' : g' < ng'
        · left
          have hog' := hgo' J' g' j1' hlt'
          have hc20' := (hcm' g' hlt').2
          have heq' : (Int32.ofNat (cm' g') = Int32.ofNat d') = (cm' g' = d') := by
            apply propext
            exact ⟨fun e' => p_inj e' (by omega) (by omega), fun e' => by rw [e']⟩
          by_cases hc' : cm' g' = d'
          · obtain ⟨hk', hor'⟩ := yq_ORs j3' hlt' hc'
            have hk6' : (Int32.ofNat k' < 6) = True := by
              rw [show (6 : Int32) = Int32.ofNat 6 from rfl, p_lt k' 6 (by omega) (by decide)]
              apply eq_true; omega
            refine ⟨(Int32.ofNat (k' + 1), Int32.ofNat (g' + 1), (q_u2 J' 43 k' (Int32.ofNat g'), X')), ?_, hlt', _, k' + 1, _, rfl, fun c' hc' => by rw [p_uc _ _ _ _ _ hc']; exact j1' c' hc', fun i' hi' => ?_, hor'⟩
            · simp (disch := omega) only [↓ce_39 hB', rf_39 hB', ↓ce_43 hB', ↓nn_41, ↓nn_42, ↓nn_43, ↓nn_44, p_bs, p_rq0, p_rq1, p_rz0, p_rz1, p_us, p_un, p_uj, ↓reduceIte, n5', hl', hlt', hog', heq', hc', hk6', p_ar]
            · by_cases e' : i' = k'
              · show _ = Int32.ofNat (if i' = k' then g' else ho' i')
                rw [e', p_us, if_pos rfl]
              · show _ = Int32.ofNat (if i' = k' then g' else ho' i')
                rw [p_uj _ _ _ _ _ e', if_neg e']; exact j2' i' (by omega)
          · refine ⟨(Int32.ofNat k', Int32.ofNat (g' + 1), (J', X')), ?_, hlt', J', k', ho', rfl, j1', j2', yq_ORn j3' hc'⟩
            simp (disch := omega) only [↓ce_39 hB', rf_39 hB', ↓nn_41, ↓nn_42, ↓nn_43, ↓nn_44, p_bs, p_rq0, p_rq1, p_rz0, p_rz1, p_us, p_un, p_uj, ↓reduceIte, n5', hl', hlt', hog', heq', hc', p_ar]
        · right
          have hg'' : g' = ng' := by omega
          subst hg''
          refine ⟨(Int32.ofNat k', (J', X')), ?_, J', k', ho', rfl, j1', j2', j3'⟩
          simp (disch := omega) only [↓ce_39 hB', rf_39 hB', ↓nn_41, ↓nn_42, ↓nn_43, ↓nn_44, p_bs, p_rq0, p_rq1, p_rz0, p_rz1, p_us, p_un, p_uj, ↓reduceIte, n5', hl', Nat.lt_irrefl]) ng' 0 q_fu (Int32.ofNat k0', 0, (J0', X')) (by omega) (by unfold q_fu; omega) ⟨J0', k0', ho0', rfl, f0', g0', o0'⟩
    exact ⟨J', k', ho', h1', j1', j2', j3'⟩
  have hl21' : ∀ (J' : p_I) (f' : Int32 → Option ((Int32 × Int32 × q_Mem) ⊕ q_Mem)), (∀ c', c' ≠ 43 → J' c' = I' c') → q_lI (J', X') 0 2 1 f' = f' 20 := fun J' f' hJ' => by
    have := p_lI (sh_2 hB') (by decide) J' 1 f' (by decide)
    rw [hJ' 2 (by decide), h21'] at this
    exact this
  obtain ⟨z', h1', J', k', ho', rfl, j1', j2', j3'⟩ := p_lp (fun z' => B_X3_orderByComing_4 39 z'.1 z'.2.1 z'.2.2) (fun d' z' => ∃ J' k' ho', z' = (Int32.ofNat k', Int32.ofNat d', (J', X')) ∧ (∀ c', c' ≠ 43 → J' c' = I' c') ∧ (∀ i', i' < k' → J' 43 i' = Int32.ofNat (ho' i')) ∧ yq_OR cm' ng' d' 0 k' ho')
    (fun z' => ∃ J' k' ho', z' = (J', X') ∧ (∀ c', c' ≠ 43 → J' c' = I' c') ∧ (∀ i', i' < k' → J' 43 i' = Int32.ofNat (ho' i')) ∧ yq_OR cm' ng' 21 0 k' ho') 21 (by
      rintro d' z' hd' ⟨J', k', ho', rfl, j1', j2', j3'⟩
      have hl' : (20 < Int32.ofNat d') = (20 < d') := p_lt 20 d' (by decide) (by omega)
      unfold B_X3_orderByComing_4
      have hq' := fun f' => hl21' J' f' j1'
      by_cases hlt' : 20 < d'
      · right
        have hd'' : d' = 21 := by omega
        subst hd''
        refine ⟨(J', X'), ?_, J', k', ho', rfl, j1', j2', j3'⟩
        simp only [hq', hl', hlt', ↓reduceIte]
      · left
        obtain ⟨K', k'', ho'', i1', i2', i3', i4'⟩ := inner d' J' k' ho' (by omega) j1' j2' j3'
        refine ⟨(Int32.ofNat k'', Int32.ofNat (d' + 1), (K', X')), ?_, by omega, K', k'', ho'', rfl, i2', i3', yq_ORd i4'⟩
        simp only [hq', hl', hlt', ↓reduceIte, i1', p_bs, p_ar]) 21 0 q_fu (0, 0, (I', X')) (by omega) (by unfold q_fu; omega) ⟨I', 0, fun _ => 0, rfl, fun _ _ => rfl, fun i' hi' => absurd hi' (by omega), by
        have hz' : ∀ g', yq_ah cm' 0 0 g' = false := fun g' => by unfold yq_ah; simp
        have h0' : t_cn (yq_ah cm' 0 0) ng' = 0 := by
          clear hng' h5' hcm' hgo' inner
          induction ng' with
          | zero => rfl
          | succ m' ih' => rw [t_cn, ih', hz' m']; rfl
        exact ⟨h0'.symm, fun i' hi' => absurd hi' (by omega), fun i' j' hij' hj' => absurd hj' (by omega), fun x' hx' hax' => absurd hax' (by rw [hz']; decide)⟩⟩
  have hk' : k' = ng' := by
    rw [j3'.1]
    refine yq_cnT (fun g' hg' => ?_)
    have := (hcm' g' hg').2
    unfold yq_ah
    simp
    omega
  subst hk'
  refine ⟨J', ho', ?_, j1', j2', j3'⟩
  unfold F_X3_orderByComing
  rw [h1']
  rfl
end PV'
