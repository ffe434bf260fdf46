theorem p_osub (a' b' : Nat) (h' : b' ≤ a') : Int32.ofNat a' - Int32.ofNat b' = Int32.ofNat (a' - b') := by
  have e' : Int32.ofNat a' = Int32.ofNat (a' - b') + Int32.ofNat b' := by rw [← Int32.ofNat_add, Nat.sub_add_cancel h']
  rw [e']
  exact Int32.add_sub_cancel _ _
theorem p_a3D (D' : Nat) (h' : D' < 2147483648) : Int32.ofNat D' &&& 3 = Int32.ofNat (D' % 4) := by
  apply Int32.toBitVec_inj.mp
  show BitVec.ofNat 32 D' &&& 3#32 = BitVec.ofNat 32 (D' % 4)
  apply BitVec.eq_of_toNat_eq
  rw [BitVec.toNat_and, BitVec.toNat_ofNat, BitVec.toNat_ofNat, BitVec.toNat_ofNat]
  have h1' : D' % 2 ^ 32 = D' := Nat.mod_eq_of_lt (by omega)
  have h2' : D' % 4 % 2 ^ 32 = D' % 4 := Nat.mod_eq_of_lt (by omega)
  have h3' : D' &&& (2 ^ 2 - 1) = D' % 2 ^ 2 := Nat.and_two_pow_sub_one_eq_mod D' 2
  rw [h1', h2']
  exact h3'
/-- the slot of the day's pot -/
def t_sl (s' : Nat → Int32) : Nat := (s' 0 &&& 3).toNatClampNeg
theorem t_slN {s' : Nat → Int32} {D' : Nat} (h' : s' 0 = Int32.ofNat D') (hD' : D' ≤ 2000) : t_sl s' = D' % 4 := by
  unfold t_sl
  rw [h', p_a3D D' (by omega), p_nat _ (by omega)]
theorem t_slL (s' : Nat → Int32) : t_sl s' < 4 := by
  obtain ⟨n', h1', -, h2'⟩ := p_a3 (s' 0)
  unfold t_sl
  omega
theorem t_x4N {s' : Nat → Int32} {D' h' : Nat} (h0' : s' 0 = Int32.ofNat D') (h1' : s' 1 = Int32.ofNat h') (hh' : h' ≤ D') (hD' : D' ≤ 2000) : t_x4 s' = (D' - h') % 4 := by
  unfold t_x4
  rw [h0', h1', p_osub _ _ hh', p_a3D _ (by omega), p_nat _ (by omega)]
theorem p_neg (a' b' : Nat) (h' : a' < b') (hb' : b' < 2147483648) : Int32.ofNat a' - Int32.ofNat b' < 0 := by
  have h1' := p_toI a' (by omega)
  have h2' := p_toI b' (by omega)
  rw [Int32.lt_iff_toInt_lt, p_tsub _ _ (by omega) (by omega), h1', h2']
  show (a' : Int) - b' < 0
  omega
theorem t_BN (p' : Nat → Bool) (g' : Nat) (hg' : g' < 6) : ((((t_B p' ^^^ (-1 : Int32)) >>> (Int32.ofNat g' &&& 31)) &&& 1) = 1) = (p' g' = false) := by
  have h' : ∀ (a' b' c' d' e' f' : Bool) (g' : Fin 6), decide ((((t_B (t_b6 a' b' c' d' e' f') ^^^ (-1 : Int32)) >>> (Int32.ofNat g' &&& 31)) &&& 1) = 1) = !(t_b6 a' b' c' d' e' f' g') := by decide +kernel
  have h2' := h' (p' 0) (p' 1) (p' 2) (p' 3) (p' 4) (p' 5) ⟨g', hg'⟩
  rw [← t_B6] at h2'
  have h3' : t_b6 (p' 0) (p' 1) (p' 2) (p' 3) (p' 4) (p' 5) g' = p' g' := by
    match g', hg' with
    | 0, _ => rfl | 1, _ => rfl | 2, _ => rfl | 3, _ => rfl | 4, _ => rfl | 5, _ => rfl
  rw [h3'] at h2'
  rw [eq_iff_iff]
  constructor
  · intro hx'
    have h4' := decide_eq_true hx'
    rw [h2'] at h4'
    simpa using h4'
  · intro hx'
    rw [hx'] at h2'
    exact of_decide_eq_true (by simpa using h2')
theorem t_BX (p' : Nat → Bool) (g' : Nat) (hg' : g' < 6) : (t_B p' ^^^ (-1 : Int32)) ||| ((1 : Int32) <<< (Int32.ofNat g' &&& 31)) = t_B (fun x' => p' x' && !(x' == g')) ^^^ (-1 : Int32) := by
  have h' : ∀ (a' b' c' d' e' f' : Bool) (g' : Fin 6), (t_B (t_b6 a' b' c' d' e' f') ^^^ (-1 : Int32)) ||| ((1 : Int32) <<< (Int32.ofNat g' &&& 31)) = t_B (fun x' => t_b6 a' b' c' d' e' f' x' && !(x' == g')) ^^^ (-1 : Int32) := by decide +kernel
  rw [t_B6, h' _ _ _ _ _ _ ⟨g', hg'⟩]
  refine congrArg (fun z' => z' ^^^ (-1 : Int32)) (t_BC (fun x' hx' => ?_))
  match x', hx' with
  | 0, _ => rfl | 1, _ => rfl | 2, _ => rfl | 3, _ => rfl | 4, _ => rfl | 5, _ => rfl
theorem t_B1 (p' : Nat → Bool) (g' : Nat) (hg' : g' < 6) : (((t_B p' >>> (Int32.ofNat g' &&& 31)) &&& 1) = 1) = (p' g' = true) := by
  have h' : ∀ (a' b' c' d' e' f' : Bool) (g' : Fin 6), decide (((t_B (t_b6 a' b' c' d' e' f') >>> (Int32.ofNat g' &&& 31)) &&& 1) = 1) = (t_b6 a' b' c' d' e' f' g') := by decide +kernel
  have h2' := h' (p' 0) (p' 1) (p' 2) (p' 3) (p' 4) (p' 5) ⟨g', hg'⟩
  rw [← t_B6] at h2'
  have h3' : t_b6 (p' 0) (p' 1) (p' 2) (p' 3) (p' 4) (p' 5) g' = p' g' := by
    match g', hg' with
    | 0, _ => rfl | 1, _ => rfl | 2, _ => rfl | 3, _ => rfl | 4, _ => rfl | 5, _ => rfl
  rw [h3'] at h2'
  rw [← h2', decide_eq_true_eq]
theorem s_hasB (p' : Nat → Bool) (g' : Nat) (hg' : g' < 6) (M' : q_Mem) : F_X12_has (t_B p') (Int32.ofNat g') M' = some (t_b (p' g')) := by
  unfold F_X12_has
  simp only [t_B1 p' g' hg']
  cases p' g' <;> rfl
theorem s_hasN (p' : Nat → Bool) (g' : Nat) (hg' : g' < 6) (M' : q_Mem) : F_X12_has (t_B p' ^^^ (-1 : Int32)) (Int32.ofNat g') M' = some (t_b (!p' g')) := by
  unfold F_X12_has
  simp only [t_BN p' g' hg']
  cases p' g' <;> rfl
/-- who stands among the first i of the order -/
def t_ms (H' : t_H) : Nat → Nat → Bool
  | 0, _ => false
  | i' + 1, g' => t_ms H' i' g' || g' == t_ho H' i'
theorem t_msE (H' : t_H) (i' g' : Nat) : t_ms H' i' g' = true ↔ ∃ j', j' < i' ∧ t_ho H' j' = g' := by
  induction i' with
  | zero => exact ⟨fun h' => by cases h', fun ⟨j', h', _⟩ => absurd h' (by omega)⟩
  | succ i' ih' =>
    rw [t_ms, Bool.or_eq_true, ih', beq_iff_eq]
    constructor
    · rintro (⟨j', h1', h2'⟩ | h')
      · exact ⟨j', by omega, h2'⟩
      · exact ⟨i', by omega, h'.symm⟩
    · rintro ⟨j', h1', h2'⟩
      by_cases e' : j' = i'
      · subst e'; exact .inr h2'.symm
      · exact .inl ⟨j', by omega, h2'⟩
theorem t_qS (H' : t_H) (s' : Nat → Int32) (i' m' : Nat) (h' : (t_q H' s' i').1 = 0) : t_q H' s' (i' + m') = t_q H' s' i' := by
  induction m' with
  | zero => rfl
  | succ m' ih' =>
    rw [← Nat.add_assoc, t_q, ih', h']
    simp
theorem t_prA {H' : t_H} {a' b' : Nat} (h1' : t_pr H' a' b') (h2' : t_pr H' b' a') : False := by
  unfold t_pr at h1' h2'
  omega
section PM'
variable {X' : p_X} {I' : p_I} {H' : t_H} {c' : Nat} {s' : Nat → Int32}
theorem s_mserves (hB' : p_B X') (hM' : t_HM H' I') (hW' : t_HW H') (hS' : t_WF H' s') (hc' : t_RK c') (hR' : t_RG s' (I' c'))
    (hP' : ∀ D' h', s' 0 = Int32.ofNat D' → s' 1 = Int32.ofNat h' → h' ≤ D' → D' ≤ 2000 → h' ≤ 3 → I' c' (24 + 2 * ((D' - h') % 4)) = t_ds H' s' ∧ I' c' (24 + 2 * ((D' - h') % 4) + 1) = t_sv H' s') :
    ∃ I'', F_X12_serves 87 c' (I', X') = some ((), I'', X') ∧ (∀ x', x' ≠ 87 → I'' x' = I' x') ∧ (∀ j', j' ≠ 37 → j' ≠ 38 → j' ≠ 39 → I'' 87 j' = I' 87 j') ∧ I'' 87 37 = t_ds H' s' ∧ I'' 87 38 = t_wm H' s' ∧ I'' 87 39 = t_sv H' s' := by
  have hnd' := hW'.2.1
  have hds' := t_dsN hnd' hW'.1 hS'
  obtain ⟨⟨D', hD', hD''⟩, ⟨h', hh', hh''⟩, -⟩ := hS'
  have hP' := fun hle' => hP' D' h' hD' hh' hle' hD'' hh''
  have h35' : I' c' 35 = Int32.ofNat D' := by rw [hR'.2.2.2, hD']
  have h32' : I' c' 32 = Int32.ofNat h' := by rw [hR'.2.1, hh']
  unfold F_X12_serves q_rmi
  simp (disch := omega) only [p_bs, p_rq0, p_rq1, p_rz0, p_rz1, p_us, p_un, p_uj, ↓reduceIte, p_mr hc' hB', h35', h32', show ((4 : Int32) = 0) = False from by decide]
  by_cases hle' : h' ≤ D'
  · obtain ⟨p1', p2'⟩ := hP' hle'
    have e0' : Int32.ofNat D' - Int32.ofNat h' = Int32.ofNat (D' - h') := p_osub _ _ hle'
    have e1' : q_mx 0 (Int32.ofNat (D' - h')) = Int32.ofNat (D' - h') := by
      unfold q_mx
      split
      · rfl
      · rename_i hx'
        rw [p_cm (D' - h') (by omega)] at hx'
        rw [show D' - h' = 0 by omega]
        rfl
    have e2' : Int32.ofNat (D' - h') - Int32.ofNat (D' - h') / 4 * 4 = Int32.ofNat ((D' - h') % 4) := t_mod (D' - h') 4 (by omega) (by omega) (by omega)
    have e3' : ¬ Int32.ofNat (D' - h') < 0 := p_nn _ (by omega)
    have n1' : ¬ (Int32.ofNat h' = 0 ∧ False) := fun z' => z'.2
    rw [e0', e1', e2']
    simp only [e3', ↓reduceIte]
    unfold J_X12_serves_35 J_X12_serves_52 J_X12_serves_91
    simp (disch := omega) only [↓ce_87 hB', rf_87 hB', ↓ce_92 hB', ↓nn_31, ↓nn_33, ↓nn_89, ↓nn_90, ↓nn_91, ↓nn_92, ↓nn_93, ↓nn_94, ↓nn_95, ↓nn_96, ↓nn_97, ↓nn_98, ↓nn_99, ↓nn_100, ↓nn_101, ↓nn_102, ↓nn_103, ↓nn_104, ↓nn_105, ↓nn_106, ↓nn_107, ↓nn_108, p_bs, p_rq0, p_rq1, p_rz0, p_rz1, p_us, p_un, p_uj, ↓reduceIte, p_mr hc' hB', p_ar, e3', p1', p2', h32']
    have hne' : t_ds H' s' ≠ -1 := by
      intro hx'
      rcases hds' with hd' | ⟨d', hd', hd''⟩
      · have hck' := t_ckN hnd' hW'.1 (s' := s')
        unfold t_ds at hd'
        split at hd'
        · rename_i hz'
          unfold t_ck at hd'
          split at hd'
          · rw [hD', t_mod D' _ (by omega) hW'.1 hnd', p_ofN1 _ (Nat.lt_of_lt_of_le (Nat.mod_lt _ hW'.1) (by omega))] at hd'
            exact hd'
          · rename_i hy'; exact hy' hd'
        · rw [hD', hh', e0', if_neg e3'] at hd'
          rw [t_x4N hD' hh' hle' hD''] at hd'
          sorry
      · rw [hd', p_ofN1 d' (by omega)] at hx'; exact hx'
    sorry
  · sorry
end PM'
