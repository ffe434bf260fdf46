/-! a day depends on 31 numbers -/
section PC'
variable {H' : t_H} {L' : t_L} {s' s'' : Nat → Int32}
theorem t_tpC (hng' : t_ng H' ≤ 6) (h' : ∀ j', j' < 31 → s'' j' = s' j') : t_tp H' s'' = t_tp H' s' := by
  funext g'
  unfold t_tp
  by_cases hg' : g' < t_ng H'
  · unfold t_th
    rw [h' 0 (by omega), h' (13 + g') (by omega), h' 4 (by omega)]
  · simp [hg']
theorem t_ckC (h' : ∀ j', j' < 31 → s'' j' = s' j') : t_ck H' s'' = t_ck H' s' := by
  unfold t_ck
  rw [h' 0 (by omega), h' 3 (by omega)]
theorem t_pnC (hng' : t_ng H' ≤ 6) (h' : ∀ j', j' < 31 → s'' j' = s' j') : t_pn H' s'' = t_pn H' s' := by
  unfold t_pn
  rw [t_tpC hng' h']
theorem t_x4C (h' : ∀ j', j' < 31 → s'' j' = s' j') : t_x4 s'' = t_x4 s' := by
  unfold t_x4
  rw [h' 0 (by omega), h' 1 (by omega)]
theorem t_x4L (s' : Nat → Int32) : t_x4 s' < 4 := by
  unfold t_x4
  obtain ⟨n', h1', h2', h3'⟩ := p_a3 (s' 0 - s' 1)
  rw [h3']; exact h1'
theorem t_dsC (h' : ∀ j', j' < 31 → s'' j' = s' j') : t_ds H' s'' = t_ds H' s' := by
  have hx' := t_x4L s'
  unfold t_ds
  rw [h' 1 (by omega), t_ckC h', h' 0 (by omega), t_x4C h', h' (5 + t_x4 s') (by omega)]
theorem t_svC (hng' : t_ng H' ≤ 6) (h' : ∀ j', j' < 31 → s'' j' = s' j') : t_sv H' s'' = t_sv H' s' := by
  have hx' := t_x4L s'
  unfold t_sv
  rw [h' 1 (by omega), t_pnC hng' h', h' 0 (by omega), t_x4C h', h' (9 + t_x4 s') (by omega)]
theorem t_wmC (h' : ∀ j', j' < 31 → s'' j' = s' j') : t_wm H' s'' = t_wm H' s' := by
  unfold t_wm
  rw [t_dsC h', h' 1 (by omega)]
theorem t_qC (hng' : t_ng H' ≤ 6) (h' : ∀ j', j' < 31 → s'' j' = s' j') (i' : Nat) : t_q H' s'' i' = t_q H' s' i' := by
  induction i' with
  | zero => rw [t_q, t_q, t_svC hng' h']
  | succ i' ih' => rw [t_q, t_q, ih', t_tpC hng' h']
theorem t_ldC (hng' : t_ng H' ≤ 6) (h' : ∀ j', j' < 31 → s'' j' = s' j') (g' : Nat) : t_ld H' s'' g' = t_ld H' s' g' := by
  unfold t_ld
  rw [t_tpC hng' h', h' 0 (by omega)]
  by_cases hg' : g' < t_ng H'
  · rw [h' (13 + g') (by omega)]
  · have : t_tp H' s' g' = false := by unfold t_tp; simp [hg']
    rw [this]; rfl
theorem t_rC (hng' : t_ng H' ≤ 6) (h' : ∀ j', j' < 31 → s'' j' = s' j') (i' : Nat) : t_r H' s'' i' = t_r H' s' i' := by
  induction i' with
  | zero => rw [t_r, t_r, t_qC hng' h']
  | succ i' ih' => rw [t_r, t_r, ih', t_ldC hng' h']
theorem t_plC (hng' : t_ng H' ≤ 6) (h' : ∀ j', j' < 31 → s'' j' = s' j') (g' : Nat) : t_pl H' s'' g' = t_pl H' s' g' := by
  unfold t_pl t_fd
  rw [t_qC hng' h', t_rC hng' h']
theorem t_fdC (hng' : t_ng H' ≤ 6) (h' : ∀ j', j' < 31 → s'' j' = s' j') : t_fd H' s'' = t_fd H' s' := by
  unfold t_fd
  rw [t_qC hng' h']
theorem t_p1C (hng' : t_ng H' ≤ 6) (h' : ∀ j', j' < 31 → s'' j' = s' j') (j' : Nat) (hj' : j' < 31) : t_p1 H' s'' j' = t_p1 H' s' j' := by
  unfold t_p1
  rw [h' 0 (by omega), h' 2 (by omega), t_ckC h', t_pnC hng' h']
  exact t_vaC (t_vaC (t_vaC (h' j' hj') rfl) rfl) rfl
theorem t_gdC (hng' : t_ng H' ≤ 6) (h' : ∀ j', j' < 31 → s'' j' = s' j') {r' r'' : Nat → Int32} (hr' : ∀ j', j' < 31 → r'' j' = r' j') (g' : Nat) (hg' : g' < 6) (j' : Nat) (hj' : j' < 31) : t_gd H' L' s'' r'' g' j' = t_gd H' L' s' r' g' j' := by
  unfold t_gd
  rw [t_wmC h', t_dsC h', t_plC hng' h', hr' (25 + g') (by omega), hr' (19 + g') (by omega), hr' 0 (by omega), hr' 2 (by omega), hr' 4 (by omega)]
  try simp only
  split
  · exact t_vaC (t_vaC (hr' j' hj') rfl) rfl
  · exact t_vaC (t_vaC (t_vaC (hr' j' hj') rfl) rfl) rfl
theorem t_glC (hng' : t_ng H' ≤ 6) (h' : ∀ j', j' < 31 → s'' j' = s' j') {r' r'' : Nat → Int32} (hr' : ∀ j', j' < 31 → r'' j' = r' j') (m' : Nat) (hm' : m' ≤ 6) : ∀ j', j' < 31 → t_gl H' L' s'' r'' m' j' = t_gl H' L' s' r' m' j' := by
  induction m' with
  | zero => exact hr'
  | succ m' ih' =>
    intro j' hj'
    rw [t_gl, t_gl, t_tpC hng' h']
    split
    · exact t_gdC hng' h' (ih' (by omega)) m' (by omega) j' hj'
    · exact ih' (by omega) j' hj'
theorem t_psC (hng' : t_ng H' ≤ 6) (h' : ∀ j', j' < 31 → s'' j' = s' j') : ∀ j', j' < 31 → t_ps H' L' s'' j' = t_ps H' L' s' j' := by
  intro j' hj'
  have e' := t_glC (L' := L') hng' h' (t_p1C hng' h') (t_ng H') hng'
  unfold t_ps
  try simp only
  exact t_vaC (t_vaC (e' j' hj') rfl) (by rw [e' 0 (by omega)])
theorem t_yiC (hng' : t_ng H' ≤ 6) (h' : ∀ j', j' < 31 → s'' j' = s' j') (n' : Nat) : ∀ j', j' < 31 → t_yi H' L' s'' n' j' = t_yi H' L' s' n' j' := by
  induction n' with
  | zero => exact h'
  | succ n' ih' => exact t_psC hng' ih'
/-- all joys are few -/
theorem t_smB {n' : Nat} (hW' : t_WF H' s') (hn' : n' ≤ 6) : -99 * (n' : Int) ≤ (t_sm s' n').toInt ∧ (t_sm s' n').toInt ≤ 999 * (n' : Int) := by
  induction n' with
  | zero => rw [t_sm]; exact ⟨by decide, by decide⟩
  | succ n' ih' =>
    have h1' := ih' (by omega)
    have h2' := (hW'.2.2.2.2.2.2.2 n' (by omega) (by omega)).2
    rw [t_sm, Int32.toInt_add, Int.bmod_eq_of_le (by omega) (by omega)]
    omega
end PC'
/-! best: what a row of dishes gives -/
noncomputable def yq_bd (H' : t_H) (L' : t_L) (s' : Nat → Int32) (d' : Nat) : Nat → Int32 := t_ps H' L' (va_up s' 3 (Int32.ofNat d'))
noncomputable def yq_sp (H' : t_H) (L' : t_L) (s' : Nat → Int32) : Nat → Nat → (Nat → Int32)
  | 0, _ => s'
  | k' + 1, p' => yq_bd H' L' (yq_sp H' L' s' k' (p' / 10)) (p' % 10)
def yq_ok (nd' : Nat) : Nat → Nat → Bool
  | 0, _ => true
  | k' + 1, p' => yq_ok nd' k' (p' / 10) && decide (p' % 10 < nd')
noncomputable def yq_V (H' : t_H) (L' : t_L) (s' : Nat → Int32) (n' r' : Nat) : Option Int32 := if yq_ok (t_nd H') n' r' = true then some (t_sm (t_yi H' L' (yq_sp H' L' s' n' r') 3) 6) else none
def yq_bu (V' : Nat → Option Int32) (a' : Int32 × Int32) (r' : Nat) : Int32 × Int32 := match V' r' with
  | none => a'
  | some j' => if a'.2 < j' then (Int32.ofNat r', j') else a'
def yq_bf (V' : Nat → Option Int32) (a' : Int32 × Int32) (b' : Nat) : Nat → Int32 × Int32
  | 0 => a'
  | m' + 1 => yq_bu V' (yq_bf V' a' b' m') (b' + m')
theorem yq_bfA (V' : Nat → Option Int32) (a' : Int32 × Int32) (b' m' m'' : Nat) : yq_bf V' (yq_bf V' a' b' m') (b' + m') m'' = yq_bf V' a' b' (m' + m'') := by
  induction m'' with
  | zero => rfl
  | succ m'' ih' => rw [yq_bf, ih', ← Nat.add_assoc m' m'' 1, yq_bf, Nat.add_assoc]
theorem yq_bfN (V' : Nat → Option Int32) (a' : Int32 × Int32) (b' m' : Nat) (h' : ∀ r', b' ≤ r' → r' < b' + m' → V' r' = none) : yq_bf V' a' b' m' = a' := by
  induction m' with
  | zero => rfl
  | succ m' ih' => rw [yq_bf, ih' (fun r' h1' h2' => h' r' h1' (by omega)), yq_bu, h' (b' + m') (by omega) (by omega)]
theorem yq_okD (nd' a' j' r' : Nat) (h' : yq_ok nd' (a' + j') r' = true) : yq_ok nd' a' (r' / 10 ^ j') = true := by
  induction j' generalizing r' with
  | zero => rw [Nat.pow_zero, Nat.div_one]; exact h'
  | succ j' ih' =>
    rw [← Nat.add_assoc, yq_ok, Bool.and_eq_true] at h'
    have := ih' (r' / 10) h'.1
    rw [Nat.div_div_eq_div_mul] at this
    rw [Nat.pow_succ, Nat.mul_comm]
    exact this
section PC'
variable {H' : t_H} {L' : t_L} {s' : Nat → Int32}
theorem yq_upW (hS' : t_WF H' s') {d' : Nat} (hd' : d' < t_nd H') : t_WF H' (va_up s' 3 (Int32.ofNat d')) := by
  obtain ⟨w1', w2', w3', w4', w5', w6', w7', w8'⟩ := hS'
  refine ⟨?_, ?_, ?_, ?_, ?_, ?_, ?_, ?_⟩
  · rw [p_vn _ _ _ _ (by omega)]; exact w1'
  · rw [p_vn _ _ _ _ (by omega)]; exact w2'
  · rw [p_vs]; exact .inr ⟨d', rfl, hd'⟩
  · intro j' hj'; simp (disch := omega) only [p_vn]; exact w4' j' hj'
  · intro j' hj'; simp (disch := omega) only [p_vn]; exact w5' j' hj'
  · intro j' hj'; simp (disch := omega) only [p_vn]; exact w6' j' hj'
  · rw [p_vn _ _ _ _ (by omega)]; exact w7'
  · intro g' h1' h2'; simp (disch := omega) only [p_vn]; exact w8' g' h1' h2'
theorem yq_spW (hW' : t_HW H') (hS' : t_WF H' s') {D' : Nat} (hD' : s' 0 = Int32.ofNat D') (k' p' : Nat) (hk' : D' + k' ≤ 2000) (h' : yq_ok (t_nd H') k' p' = true) : t_WF H' (yq_sp H' L' s' k' p') ∧ yq_sp H' L' s' k' p' 0 = Int32.ofNat (D' + k') := by
  induction k' generalizing p' with
  | zero => exact ⟨hS', hD'⟩
  | succ k' ih' =>
    rw [yq_ok, Bool.and_eq_true, decide_eq_true_eq] at h'
    obtain ⟨h1', h2'⟩ := ih' (p' / 10) (by omega) h'.1
    exact t_psW (D' := D' + k') hW' (yq_upW h1' h'.2) (by rw [p_vn _ _ _ _ (by omega)]; exact h2') (by omega)
theorem yq_spC {s'' : Nat → Int32} (hng' : t_ng H' ≤ 6) (h' : ∀ j', j' < 31 → s'' j' = s' j') (k' p' : Nat) : ∀ j', j' < 31 → yq_sp H' L' s'' k' p' j' = yq_sp H' L' s' k' p' j' := by
  induction k' generalizing p' with
  | zero => exact h'
  | succ k' ih' => exact t_psC hng' (fun j' hj' => t_vaC (ih' (p' / 10) j' hj') rfl)
end PC'
