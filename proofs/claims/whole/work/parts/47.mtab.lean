theorem p_a3D (D' : Nat) (h' : D' < 2147483648) : Int32.ofNat D' &&& 3 = Int32.ofNat (D' % 4) := by
  apply Int32.toBitVec_inj.mp
  show BitVec.ofNat 32 D' &&& 3#32 = BitVec.ofNat 32 (D' % 4)
  apply BitVec.eq_of_toNat_eq
  rw [BitVec.toNat_and, BitVec.toNat_ofNat, BitVec.toNat_ofNat, BitVec.toNat_ofNat]
  have h1' : D' % 2 ^ 32 = D' := Nat.mod_eq_of_lt (by omega)
  have h2' : D' % 4 % 2 ^ 32 = D' % 4 := Nat.mod_eq_of_lt (by omega)
  have h3' : D' &&& (2 ^ 2 - 1) = D' % 2 ^ 2 := Nat.and_two_pow_sub_one_eq_mod D' 2
  rw [h1', h2']
  exact h3'
/-- the slot of the day's pot -/
def t_sl (s' : Nat → Int32) : Nat := (s' 0 &&& 3).toNatClampNeg
theorem t_slN {s' : Nat → Int32} {D' : Nat} (h' : s' 0 = Int32.ofNat D') (hD' : D' ≤ 2000) : t_sl s' = D' % 4 := by
  unfold t_sl
  rw [h', p_a3D D' (by omega), p_nat _ (by omega)]
theorem t_slL (s' : Nat → Int32) : t_sl s' < 4 := by
  obtain ⟨n', h1', -, h2'⟩ := p_a3 (s' 0)
  unfold t_sl
  omega
theorem t_x4N {s' : Nat → Int32} {D' h' : Nat} (h0' : s' 0 = Int32.ofNat D') (h1' : s' 1 = Int32.ofNat h') (hh' : h' ≤ D') (hD' : D' ≤ 2000) : t_x4 s' = (D' - h') % 4 := by
  unfold t_x4
  rw [h0', h1', p_osub _ _ hh', p_a3D _ (by omega), p_nat _ (by omega)]
theorem t_BN (p' : Nat → Bool) (g' : Nat) (hg' : g' < 6) : ((((t_B p' ^^^ (-1 : Int32)) >>> (Int32.ofNat g' &&& 31)) &&& 1) = 1) = (p' g' = false) := by
  have h' : ∀ (a' b' c' d' e' f' : Bool) (g' : Fin 6), decide ((((t_B (t_b6 a' b' c' d' e' f') ^^^ (-1 : Int32)) >>> (Int32.ofNat g' &&& 31)) &&& 1) = 1) = !(t_b6 a' b' c' d' e' f' g') := by decide +kernel
  have h2' := h' (p' 0) (p' 1) (p' 2) (p' 3) (p' 4) (p' 5) ⟨g', hg'⟩
  rw [← t_B6] at h2'
  have h3' : t_b6 (p' 0) (p' 1) (p' 2) (p' 3) (p' 4) (p' 5) g' = p' g' := by
    match g', hg' with
    | 0, _ => rfl | 1, _ => rfl | 2, _ => rfl | 3, _ => rfl | 4, _ => rfl | 5, _ => rfl
  rw [h3'] at h2'
  rw [eq_iff_iff]
  constructor
  · intro hx'
    have h4' := decide_eq_true hx'
    rw [h2'] at h4'
    simpa using h4'
  · intro hx'
    rw [hx'] at h2'
    exact of_decide_eq_true (by simpa using h2')
theorem t_BX (p' : Nat → Bool) (g' : Nat) (hg' : g' < 6) : (t_B p' ^^^ (-1 : Int32)) ||| ((1 : Int32) <<< (Int32.ofNat g' &&& 31)) = t_B (fun x' => p' x' && !(x' == g')) ^^^ (-1 : Int32) := by
  have h' : ∀ (a' b' c' d' e' f' : Bool) (g' : Fin 6), (t_B (t_b6 a' b' c' d' e' f') ^^^ (-1 : Int32)) ||| ((1 : Int32) <<< (Int32.ofNat g' &&& 31)) = t_B (fun x' => t_b6 a' b' c' d' e' f' x' && !(x' == g')) ^^^ (-1 : Int32) := by decide +kernel
  rw [t_B6, h' _ _ _ _ _ _ ⟨g', hg'⟩]
  refine congrArg (fun z' => z' ^^^ (-1 : Int32)) (t_BC (fun x' hx' => ?_))
  match x', hx' with
  | 0, _ => rfl | 1, _ => rfl | 2, _ => rfl | 3, _ => rfl | 4, _ => rfl | 5, _ => rfl
theorem t_B1 (p' : Nat → Bool) (g' : Nat) (hg' : g' < 6) : (((t_B p' >>> (Int32.ofNat g' &&& 31)) &&& 1) = 1) = (p' g' = true) := by
  have h' : ∀ (a' b' c' d' e' f' : Bool) (g' : Fin 6), decide (((t_B (t_b6 a' b' c' d' e' f') >>> (Int32.ofNat g' &&& 31)) &&& 1) = 1) = (t_b6 a' b' c' d' e' f' g') := by decide +kernel
  have h2' := h' (p' 0) (p' 1) (p' 2) (p' 3) (p' 4) (p' 5) ⟨g', hg'⟩
  rw [← t_B6] at h2'
  have h3' : t_b6 (p' 0) (p' 1) (p' 2) (p' 3) (p' 4) (p' 5) g' = p' g' := by
    match g', hg' with
    | 0, _ => rfl | 1, _ => rfl | 2, _ => rfl | 3, _ => rfl | 4, _ => rfl | 5, _ => rfl
  rw [h3'] at h2'
  rw [← h2', decide_eq_true_eq]
theorem s_hasB (p' : Nat → Bool) (g' : Nat) (hg' : g' < 6) (M' : q_Mem) : F_X12_has (t_B p') (Int32.ofNat g') M' = some (t_b (p' g')) := by
  unfold F_X12_has
  simp only [t_B1 p' g' hg']
  cases p' g' <;> rfl
theorem s_hasN (p' : Nat → Bool) (g' : Nat) (hg' : g' < 6) (M' : q_Mem) : F_X12_has (t_B p' ^^^ (-1 : Int32)) (Int32.ofNat g') M' = some (t_b (!p' g')) := by
  unfold F_X12_has
  simp only [t_BN p' g' hg']
  cases p' g' <;> rfl
/-- who stands among the first i of the order -/
def t_ms (H' : t_H) : Nat → Nat → Bool
  | 0, _ => false
  | i' + 1, g' => t_ms H' i' g' || g' == t_ho H' i'
theorem t_msE (H' : t_H) (i' g' : Nat) : t_ms H' i' g' = true ↔ ∃ j', j' < i' ∧ t_ho H' j' = g' := by
  induction i' with
  | zero => exact ⟨(fun h' => by cases h'), fun ⟨j', h', _⟩ => absurd h' (by omega)⟩
  | succ i' ih' =>
    rw [t_ms, Bool.or_eq_true, ih', beq_iff_eq]
    constructor
    · rintro (⟨j', h1', h2'⟩ | h')
      · exact ⟨j', by omega, h2'⟩
      · exact ⟨i', by omega, h'.symm⟩
    · rintro ⟨j', h1', h2'⟩
      by_cases e' : j' = i'
      · subst e'; exact .inr h2'.symm
      · exact .inl ⟨j', by omega, h2'⟩
theorem t_qS (H' : t_H) (s' : Nat → Int32) (i' m' : Nat) (h' : (t_q H' s' i').1 = 0) : t_q H' s' (i' + m') = t_q H' s' i' := by
  induction m' with
  | zero => rfl
  | succ m' ih' =>
    rw [← Nat.add_assoc, t_q, ih', h']
    simp
theorem t_prA {H' : t_H} {a' b' : Nat} (h1' : t_pr H' a' b') (h2' : t_pr H' b' a') : False := by
  unfold t_pr at h1' h2'
  omega
theorem t_dsP {H' : t_H} {s' : Nat → Int32} (hn' : t_nd H' ≤ 5) (h0' : 0 < t_nd H') (hW' : t_WF H' s') {D' h' : Nat} (hD' : s' 0 = Int32.ofNat D') (hh' : s' 1 = Int32.ofNat h') (hle' : h' ≤ D') (hD'' : D' ≤ 2000) : ∃ d', t_ds H' s' = Int32.ofNat d' ∧ d' < t_nd H' := by
  unfold t_ds
  split
  · exact t_ckN hn' h0' hW'
  · split
    · rename_i hx'
      rw [hD', hh', p_osub _ _ hle'] at hx'
      exact absurd hx' (p_nn _ (by omega))
    · obtain ⟨n', h1', -, h2'⟩ := p_a3 (s' 0 - s' 1)
      unfold t_x4
      rw [h2']
      exact hW'.2.2.2.1 n' h1'
theorem p_m4 : ((4 : Int32) = 0) = False := by decide
/-- the pots behind the day's own writing -/
noncomputable def t_w1 (H' : t_H) (s' w' : Nat → Int32) (D' : Nat) : Nat → Int32 := va_up (va_up w' (24 + 2 * (D' % 4)) (t_ck H' s')) (24 + 2 * (D' % 4) + 1) (t_bc (t_B (t_tp H' s')))
theorem t_potR {H' : t_H} {s' w' : Nat → Int32} {D' h' : Nat} (hR' : ∀ j', j' < 4 → w' (24 + 2 * j') = s' (5 + j') ∧ w' (24 + 2 * j' + 1) = s' (9 + j')) (hD' : s' 0 = Int32.ofNat D') (hh' : s' 1 = Int32.ofNat h') (hle' : h' ≤ D') (hD'' : D' ≤ 2000) (h3' : h' ≤ 3) : t_w1 H' s' w' D' (24 + 2 * ((D' - h') % 4)) = t_ds H' s' ∧ t_w1 H' s' w' D' (24 + 2 * ((D' - h') % 4) + 1) = t_sv H' s' := by
  unfold t_w1 t_ds t_sv
  by_cases e' : h' = 0
  · subst e'
    have hh0' : s' 1 = 0 := hh'
    rw [if_pos hh0', if_pos hh0']
    rw [Nat.sub_zero, p_vs, p_vn _ _ _ _ (by omega), p_vs]
    exact ⟨rfl, rfl⟩
  · have e1' : ¬ s' 1 = 0 := by rw [hh', show (0 : Int32) = Int32.ofNat 0 from rfl, p_eq h' 0 (by omega) (by omega)]; exact e'
    have e2' : ¬ s' 0 - s' 1 < 0 := by rw [hD', hh', p_osub _ _ hle']; exact p_nn _ (by omega)
    rw [if_neg e1', if_neg e1', if_neg e2', if_neg e2', t_x4N hD' hh' hle' hD'']
    rw [p_vn _ _ _ _ (by omega), p_vn _ _ _ _ (by omega), p_vn _ _ _ _ (by omega), p_vn _ _ _ _ (by omega)]
    exact hR' _ (by omega)
section PM'
variable {X' : p_X} {I' : p_I} {H' : t_H} {c' : Nat} {s' : Nat → Int32}
theorem s_mserves (hB' : p_B X') (hM' : t_HM H' I') (hW' : t_HW H') (hS' : t_WF H' s') (hc' : t_RK c') (hR' : t_RG s' (I' c'))
    (hP' : ∀ D' h', s' 0 = Int32.ofNat D' → s' 1 = Int32.ofNat h' → h' ≤ D' → D' ≤ 2000 → h' ≤ 3 → I' c' (24 + 2 * ((D' - h') % 4)) = t_ds H' s' ∧ I' c' (24 + 2 * ((D' - h') % 4) + 1) = t_sv H' s') :
    ∃ I'', F_X12_serves 87 c' (I', X') = some ((), I'', X') ∧ (∀ x', x' ≠ 87 → I'' x' = I' x') ∧ (∀ j', j' ≠ 37 → j' ≠ 38 → j' ≠ 39 → I'' 87 j' = I' 87 j') ∧ I'' 87 37 = t_ds H' s' ∧ I'' 87 38 = t_wm H' s' ∧ I'' 87 39 = t_sv H' s' := by
  have hnd' := hW'.2.1
  have hS'' := hS'
  obtain ⟨⟨D', hD', hD''⟩, ⟨h', hh', hh''⟩, -⟩ := hS'
  have hP' := fun hle' => hP' D' h' hD' hh' hle' hD'' hh''
  have h35' : I' c' 35 = Int32.ofNat D' := by rw [hR'.2.2.2, hD']
  have h32' : I' c' 32 = Int32.ofNat h' := by rw [hR'.2.1, hh']
  unfold F_X12_serves q_rmi
  simp (disch := omega) only [p_bs, p_rq0, p_rq1, p_rz0, p_rz1, p_us, p_un, p_uj, ↓reduceIte, p_mr hc' hB', h35', h32', p_m4]
  by_cases hle' : h' ≤ D'
  · obtain ⟨p1', p2'⟩ := hP' hle'
    obtain ⟨d', hd', hd''⟩ := t_dsP hnd' hW'.1 hS'' hD' hh' hle' hD''
    have p3' := p1'.trans hd'
    have e0' : Int32.ofNat D' - Int32.ofNat h' = Int32.ofNat (D' - h') := p_osub _ _ hle'
    have e1' : q_mx 0 (Int32.ofNat (D' - h')) = Int32.ofNat (D' - h') := by
      unfold q_mx
      split
      · rfl
      · rename_i hx'
        rw [show (0 : Int32) = Int32.ofNat 0 from rfl, p_lt 0 (D' - h') (by omega) (by omega)] at hx'
        rw [show D' - h' = 0 by omega]
        rfl
    have e2' : Int32.ofNat (D' - h') - Int32.ofNat (D' - h') / 4 * 4 = Int32.ofNat ((D' - h') % 4) := t_mod (D' - h') 4 (by omega) (by omega) (by omega)
    have e3' : ¬ Int32.ofNat (D' - h') < 0 := p_nn _ (by omega)
    rw [e0', e1', e2']
    simp only [e3', ↓reduceIte]
    unfold J_X12_serves_35 J_X12_serves_52 J_X12_serves_91
    have hm' : I' 94 (3 * d') = t_hd H' (3 * d') := hM'.2.1 _ (by omega)
    have hr' : I' 92 1 = t_hr H' 1 := hM'.1 _ (by omega)
    have hcn' : c' ≠ 87 := by omega
    simp (disch := omega) only [↓ce_87 hB', rf_87 hB', ↓ce_94 hB', ↓ce_92 hB', ↓nn_31, ↓nn_33, ↓nn_89, ↓nn_90, ↓nn_91, ↓nn_92, ↓nn_93, ↓nn_94, ↓nn_95, ↓nn_96, ↓nn_97, ↓nn_98, ↓nn_99, ↓nn_100, ↓nn_101, ↓nn_102, ↓nn_103, ↓nn_104, ↓nn_105, ↓nn_106, ↓nn_107, ↓nn_108, p_bs, p_rq0, p_rq1, p_rz0, p_rz1, p_us, p_un, p_uj, ↓reduceIte, p_mr hc' hB', p_ar, e3', p3', p2', h32', hm', hr']
    refine ⟨_, rfl, ?_, ?_, ?_, ?_, ?_⟩
    · intro x' hx'; simp only [p_uc _ _ _ _ _ hx']
    · intro j' h1' h2' h3'; simp (disch := omega) only [p_uj]
    · simp (disch := omega) only [p_us, p_uj]; exact hd'.symm
    · simp (disch := omega) only [p_us, p_uj]
      unfold t_wm
      rw [hd', if_neg (by rw [p_ofN1 d' (by omega)]; exact id), p_nat d' (by omega), hh', Nat.mul_comm]
    · simp (disch := omega) only [p_us, p_uj]
  · have e3' : Int32.ofNat D' - Int32.ofNat h' < 0 := p_neg _ _ (by omega) (by omega)
    have e1' : t_ds H' s' = -1 := by
      unfold t_ds
      rw [if_neg (by rw [hh', show (0 : Int32) = Int32.ofNat 0 from rfl, p_eq h' 0 (by omega) (by omega)]; omega), if_pos (by rw [hD', hh']; exact e3')]
    have e2' : t_sv H' s' = 0 := by
      unfold t_sv
      rw [if_neg (by rw [hh', show (0 : Int32) = Int32.ofNat 0 from rfl, p_eq h' 0 (by omega) (by omega)]; omega), if_pos (by rw [hD', hh']; exact e3')]
    have e4' : t_wm H' s' = 0 := by unfold t_wm; rw [if_pos e1']
    rw [e1', e2', e4']
    unfold J_X12_serves_35 J_X12_serves_52 J_X12_serves_91
    simp (disch := omega) only [↓ce_87 hB', rf_87 hB', ↓nn_31, ↓nn_33, ↓nn_89, ↓nn_90, ↓nn_91, ↓nn_92, ↓nn_93, ↓nn_94, ↓nn_95, ↓nn_96, ↓nn_97, ↓nn_98, ↓nn_99, ↓nn_100, ↓nn_101, ↓nn_102, ↓nn_103, ↓nn_104, ↓nn_105, ↓nn_106, ↓nn_107, ↓nn_108, p_bs, p_rq0, p_rq1, p_rz0, p_rz1, p_us, p_un, p_uj, ↓reduceIte, e3']
    refine ⟨_, rfl, ?_, ?_, ?_, ?_, ?_⟩
    · intro x' hx'; simp only [p_uc _ _ _ _ _ hx']
    · intro j' h1' h2' h3'; simp (disch := omega) only [p_uj]
    · simp (disch := omega) only [p_us, p_uj]
    · simp (disch := omega) only [p_us, p_uj]
    · simp (disch := omega) only [p_us, p_uj]
end PM'
/-- the first to come among some -/
def t_mn (H' : t_H) (p' : Nat → Bool) : Nat → Option Nat
  | 0 => none
  | m' + 1 => if p' m' = true then (match t_mn H' p' m' with
    | none => some m'
    | some x' => if t_cm H' m' < t_cm H' x' then some m' else some x') else t_mn H' p' m'
def t_nx (o' : Option Nat) : Int32 := match o' with
  | none => -1
  | some x' => Int32.ofNat x'
theorem t_mnS (H' : t_H) (p' : Nat → Bool) (m' : Nat) : (t_mn H' p' m' = none → ∀ y', y' < m' → p' y' = false) ∧ (∀ x', t_mn H' p' m' = some x' → x' < m' ∧ p' x' = true ∧ ∀ y', y' < m' → p' y' = true → y' = x' ∨ t_pr H' x' y') := by
  induction m' with
  | zero => exact ⟨(fun _ y' hy' => absurd hy' (by omega)), (fun x' h' => by cases h')⟩
  | succ m' ih' =>
    obtain ⟨i1', i2'⟩ := ih'
    rw [t_mn]
    cases hp' : p' m'
    · simp only [Bool.false_eq_true, ↓reduceIte]
      refine ⟨fun h' y' hy' => ?_, fun x' h' => ?_⟩
      · by_cases e' : y' = m'
        · subst e'; exact hp'
        · exact i1' h' y' (by omega)
      · obtain ⟨a1', a2', a3'⟩ := i2' x' h'
        refine ⟨by omega, a2', fun y' hy' py' => ?_⟩
        by_cases e' : y' = m'
        · subst e'; rw [hp'] at py'; cases py'
        · exact a3' y' (by omega) py'
    · simp only [↓reduceIte]
      cases hm' : t_mn H' p' m' with
      | none =>
        refine ⟨(fun h' => by cases h'), fun x' h' => ?_⟩
        simp only [Option.some.injEq] at h'
        subst h'
        refine ⟨by omega, hp', fun y' hy' py' => ?_⟩
        by_cases e' : y' = m'
        · exact .inl e'
        · rw [i1' hm' y' (by omega)] at py'; cases py'
      | some z' =>
        obtain ⟨a1', a2', a3'⟩ := i2' z' hm'
        by_cases hl' : t_cm H' m' < t_cm H' z'
        · simp only [hl', ↓reduceIte]
          refine ⟨(fun h' => by cases h'), fun x' h' => ?_⟩
          simp only [Option.some.injEq] at h'
          subst h'
          refine ⟨by omega, hp', fun y' hy' py' => ?_⟩
          by_cases e' : y' = m'
          · exact .inl e'
          · right
            rcases a3' y' (by omega) py' with h1' | h1'
            · subst h1'; exact .inl hl'
            · unfold t_pr at h1' ⊢; omega
        · simp only [hl', ↓reduceIte]
          refine ⟨(fun h' => by cases h'), fun x' h' => ?_⟩
          simp only [Option.some.injEq] at h'
          subst h'
          refine ⟨by omega, a2', fun y' hy' py' => ?_⟩
          by_cases e' : y' = m'
          · subst e'; right; unfold t_pr; omega
          · exact a3' y' (by omega) py'
theorem t_cmL {H' : t_H} (hW' : t_HW H') (g' x' : Nat) (hg' : g' < t_ng H') (hx' : x' < t_ng H') : (t_hg H' (g' * 4) < t_hg H' (x' * 4)) = (t_cm H' g' < t_cm H' x') := by
  obtain ⟨a', h1', h2'⟩ := hW'.2.2.2.2.2.2.2.1 g' hg'
  obtain ⟨b', h3', h4'⟩ := hW'.2.2.2.2.2.2.2.1 x' hx'
  unfold t_cm
  rw [h1', h3', p_lt a' b' (by omega) (by omega), p_nat a' (by omega), p_nat b' (by omega)]
theorem t_qZ (H' : t_H) (s' : Nat → Int32) (i' m' : Nat) (h' : ∀ j', i' ≤ j' → j' < i' + m' → t_tp H' s' (t_ho H' j') = false) : t_q H' s' (i' + m') = t_q H' s' i' := by
  induction m' with
  | zero => rfl
  | succ m' ih' =>
    rw [← Nat.add_assoc, t_q, h' (i' + m') (by omega) (by omega), ih' (fun j' h1' h2' => h' j' h1' (by omega))]
    simp
theorem t_msN {H' : t_H} (hW' : t_HW H') {i' j' : Nat} (h1' : i' ≤ j') (h2' : j' < t_ng H') : t_ms H' i' (t_ho H' j') = false := by
  cases h' : t_ms H' i' (t_ho H' j')
  · rfl
  · obtain ⟨x', hx', e'⟩ := (t_msE H' i' _).mp h'
    have := t_hoI hW' (by omega) h2' e'
    omega
section PM'
variable {X' : p_X} {I' : p_I} {H' : t_H} {c' : Nat} {s' : Nat → Int32}
theorem s_next (hB' : p_B X') (hM' : t_HM H' I') (hW' : t_HW H') (p' : Nat → Bool) (l3' l5' : Int32) : q_lp (fun z' => B_X12_goTable_94 87 c' l3' (t_B p' ^^^ (-1 : Int32)) l5' z'.1 z'.2 (I', X')) q_fu ((-1 : Int32), (0 : Int32)) = some (t_nx (t_mn H' p' (t_ng H'))) := by
  have hng' : t_ng H' ≤ 6 := hW'.2.2.2.1
  refine p_for (fun z' => B_X12_goTable_94 87 c' l3' (t_B p' ^^^ (-1 : Int32)) l5' z'.1 z'.2 (I', X')) (t_ng H') (fun i' => (t_nx (t_mn H' p' i'), Int32.ofNat i')) _ (by unfold q_fu; omega) ?_ ?_ _ rfl
  · intro m' hm'
    have hh' := s_hasN p' m' (by omega) (I', X')
    have hc1' := s_comes hB' hM' hW' m' hm'
    try simp only
    unfold B_X12_goTable_94 J_X12_goTable_134_94 J_X12_goTable_138_94
    simp (disch := omega) only [↓ce_87 hB', rf_87 hB', ↓nn_31, ↓nn_33, ↓nn_89, ↓nn_90, ↓nn_91, ↓nn_92, ↓nn_93, ↓nn_94, ↓nn_95, ↓nn_96, ↓nn_97, ↓nn_98, ↓nn_99, ↓nn_100, ↓nn_101, ↓nn_102, ↓nn_103, ↓nn_104, ↓nn_105, ↓nn_106, ↓nn_107, ↓nn_108, p_bs, p_rq0, p_rq1, p_rz0, p_rz1, p_us, p_un, p_uj, ↓reduceIte, hM'.2.2.2.2, p_lt, hm', hh', t_b0, hc1', p_ar]
    rw [t_mn]
    cases hp' : p' m'
    · simp only [Bool.not_false, Bool.true_eq_false, Bool.false_eq_true, ↓reduceIte]
    · simp only [Bool.not_true, ↓reduceIte]
      cases hx' : t_mn H' p' m' with
      | none => simp only [t_nx, ↓reduceIte]
      | some x' =>
        have hx6' := ((t_mnS H' p' m').2 x' hx').1
        have hc2' := s_comes hB' hM' hW' x' (by omega)
        simp only [t_nx, p_ofN1 x' (by omega), ↓reduceIte, hc2', p_bs, t_cmL hW' m' x' (by omega) (by omega)]
        by_cases hl' : t_cm H' m' < t_cm H' x'
        · simp only [hl', ↓reduceIte]
        · simp only [hl', ↓reduceIte]
  · simp only
    unfold B_X12_goTable_94
    simp (disch := omega) only [↓ce_87 hB', rf_87 hB', ↓nn_31, ↓nn_33, ↓nn_89, ↓nn_90, ↓nn_91, ↓nn_92, ↓nn_93, ↓nn_94, ↓nn_95, ↓nn_96, ↓nn_97, ↓nn_98, ↓nn_99, ↓nn_100, ↓nn_101, ↓nn_102, ↓nn_103, ↓nn_104, ↓nn_105, ↓nn_106, ↓nn_107, ↓nn_108, p_bs, p_rq0, p_rq1, p_rz0, p_rz1, p_us, p_un, p_uj, ↓reduceIte, hM'.2.2.2.2, p_lt, Nat.lt_irrefl]
theorem s_plate0 (hB' : p_B X') (l3' l4' : Int32) : ∃ I'', q_lp (fun z' => B_X12_goTable_55 87 c' l3' l4' z'.1 z'.2) q_fu ((0 : Int32), (I', X')) = some (I'', X') ∧ (∀ x', x' ≠ 102 → I'' x' = I' x') ∧ (∀ g', g' < 6 → I'' 102 g' = 0) := by
  obtain ⟨e', h1', J', rfl, h2'⟩ := p_lp (fun z' => B_X12_goTable_55 87 c' l3' l4' z'.1 z'.2) (fun i' z' => ∃ J', z' = (Int32.ofNat i', (J', X')) ∧ (∀ x', x' ≠ 102 → J' x' = I' x') ∧ (∀ g', g' < i' → J' 102 g' = 0))
    (fun e' => ∃ J', e' = (J', X') ∧ (∀ x', x' ≠ 102 → J' x' = I' x') ∧ (∀ g', g' < 6 → J' 102 g' = 0)) 6 (by
      rintro i' z' hi' ⟨J', rfl, j1', j2'⟩
      by_cases hlt' : i' < 6
      · left
        unfold B_X12_goTable_55
        simp (disch := omega) only [↓ce_87 hB', rf_87 hB', ↓ce_102 hB', ↓nn_31, ↓nn_33, ↓nn_89, ↓nn_90, ↓nn_91, ↓nn_92, ↓nn_93, ↓nn_94, ↓nn_95, ↓nn_96, ↓nn_97, ↓nn_98, ↓nn_99, ↓nn_100, ↓nn_101, ↓nn_102, ↓nn_103, ↓nn_104, ↓nn_105, ↓nn_106, ↓nn_107, ↓nn_108, p_bs, p_rq0, p_rq1, p_rz0, p_rz1, p_us, p_un, p_uj, ↓reduceIte, p_cm, hlt', p_ar]
        refine ⟨_, rfl, True.intro, _, rfl, ?_, ?_⟩
        · intro x' hx'; rw [p_uc _ _ _ _ _ hx']; exact j1' x' hx'
        · intro g' hg'
          by_cases e' : g' = i'
          · subst e'; rw [p_us]
          · rw [p_uj _ _ _ _ _ e']; exact j2' g' (by omega)
      · right
        have hi'' : i' = 6 := by omega
        subst hi''
        refine ⟨_, ?_, J', rfl, j1', j2'⟩
        unfold B_X12_goTable_55
        simp (disch := omega) only [↓ce_87 hB', rf_87 hB', ↓nn_31, ↓nn_33, ↓nn_89, ↓nn_90, ↓nn_91, ↓nn_92, ↓nn_93, ↓nn_94, ↓nn_95, ↓nn_96, ↓nn_97, ↓nn_98, ↓nn_99, ↓nn_100, ↓nn_101, ↓nn_102, ↓nn_103, ↓nn_104, ↓nn_105, ↓nn_106, ↓nn_107, ↓nn_108, p_bs, p_rq0, p_rq1, p_rz0, p_rz1, p_us, p_un, p_uj, ↓reduceIte, p_cm, Nat.lt_irrefl]) 6 0 q_fu (0, (I', X')) (by omega) (by unfold q_fu; omega) ⟨I', rfl, fun _ _ => rfl, fun g' hg' => absurd hg' (by omega)⟩
  exact ⟨J', h1', h2'⟩
/-- the first round -/
theorem s_mfeed1 (hB' : p_B X') (hM' : t_HM H' I') (hW' : t_HW H') (hS' : t_WF H' s') (h0' : ∀ g', g' < 6 → I' 102 g' = 0) :
    ∃ I'' e', q_lp (fun z' => B_X12_goTable_79 87 c' z'.1 z'.2.1 z'.2.2.1 z'.2.2.2) q_fu (t_sv H' s', t_B (t_tp H' s') ^^^ (-1 : Int32), (0 : Int32), (I', X')) = some e' ∧ (e' = .inl (Int32.ofNat (t_q H' s' (t_ng H')).1, (I'', X')) ∨ e' = .inr (Int32.ofNat (t_q H' s' (t_ng H')).1, (I'', X'))) ∧ (∀ x', x' ≠ 102 → I'' x' = I' x') ∧ (∀ g', g' < 6 → I'' 102 g' = t_b (t_fd H' s' g')) := by
  have hng' : t_ng H' ≤ 6 := hW'.2.2.2.1
  obtain ⟨n0', hn0', hn6'⟩ := t_svN hS'
  have hnn' : (t_sv H' s').toNatClampNeg = n0' := by rw [hn0', p_nat _ (by omega)]
  obtain ⟨e', h1', J', h2'⟩ := p_lp (fun z' => B_X12_goTable_79 87 c' z'.1 z'.2.1 z'.2.2.1 z'.2.2.2)
    (fun n' z' => ∃ i' J', i' ≤ t_ng H' ∧ n' ≤ i' ∧ z' = (Int32.ofNat (t_q H' s' i').1, t_B (fun g' => t_tp H' s' g' && !t_ms H' i' g') ^^^ (-1 : Int32), Int32.ofNat n', (J', X')) ∧ (∀ x', x' ≠ 102 → J' x' = I' x') ∧ (∀ g', g' < 6 → J' 102 g' = t_b ((t_q H' s' i').2 g')))
    (fun e' => ∃ J', (e' = .inl (Int32.ofNat (t_q H' s' (t_ng H')).1, (J', X')) ∨ e' = .inr (Int32.ofNat (t_q H' s' (t_ng H')).1, (J', X'))) ∧ (∀ x', x' ≠ 102 → J' x' = I' x') ∧ (∀ g', g' < 6 → J' 102 g' = t_b (t_fd H' s' g'))) (t_ng H') (by
      rintro n' z' hn' ⟨i', J', hi', hni', rfl, j1', j2'⟩
      have hM'' : t_HM H' J' := t_HMk hM' (j1' 92 (by decide)) (j1' 94 (by decide)) (j1' 96 (by decide)) (by rw [j1' 87 (by decide)]) (by rw [j1' 87 (by decide)])
      have hq' := t_qL H' s' i'
      by_cases hlt' : n' < t_ng H'
      · have hN' := s_next (c' := c') hB' hM'' hW' (fun g' => t_tp H' s' g' && !t_ms H' i' g') (Int32.ofNat (t_q H' s' i').1) (Int32.ofNat n')
        unfold B_X12_goTable_79
        simp (disch := omega) only [↓ce_87 hB', rf_87 hB', ↓ce_102 hB', ↓nn_31, ↓nn_33, ↓nn_89, ↓nn_90, ↓nn_91, ↓nn_92, ↓nn_93, ↓nn_94, ↓nn_95, ↓nn_96, ↓nn_97, ↓nn_98, ↓nn_99, ↓nn_100, ↓nn_101, ↓nn_102, ↓nn_103, ↓nn_104, ↓nn_105, ↓nn_106, ↓nn_107, ↓nn_108, p_bs, p_rq0, p_rq1, p_rz0, p_rz1, p_us, p_un, p_uj, ↓reduceIte, hM''.2.2.2.2, p_lt, hlt', hN']
        obtain ⟨m1', m2'⟩ := t_mnS H' (fun g' => t_tp H' s' g' && !t_ms H' i' g') (t_ng H')
        cases hx' : t_mn H' (fun g' => t_tp H' s' g' && !t_ms H' i' g') (t_ng H') with
        | none =>
          right
          have hz' : t_q H' s' (t_ng H') = t_q H' s' i' := by
            rw [show t_ng H' = i' + (t_ng H' - i') by omega]
            refine t_qZ H' s' i' _ (fun j' a1' a2' => ?_)
            have h3' := m1' hx' (t_ho H' j') (hW'.2.2.2.2.1 j' (by omega))
            rw [t_msN hW' a1' (by omega)] at h3'
            simpa using h3'
          simp only [t_nx, ↓reduceIte]
          refine ⟨_, rfl, J', .inr (by rw [hz']), j1', ?_⟩
          unfold t_fd
          rw [hz']
          exact j2'
        | some x' =>
          obtain ⟨a1', a2', a3'⟩ := m2' x' hx'
          simp only [Bool.and_eq_true, Bool.not_eq_true'] at a2'
          simp only [t_nx, p_ofN1 x' (by omega), ↓reduceIte]
          by_cases hl' : (t_q H' s' i').1 = 0
          · right
            have hz' : t_q H' s' (t_ng H') = t_q H' s' i' := by
              rw [show t_ng H' = i' + (t_ng H' - i') by omega]
              exact t_qS H' s' i' _ hl'
            simp (disch := omega) only [p_bs, p_rq0, p_rq1, p_rz0, p_rz1, p_us, p_un, p_uj, ↓reduceIte, p_cm, hl']
            refine ⟨_, rfl, J', .inl (by rw [hz', hl']), j1', ?_⟩
            unfold t_fd
            rw [hz']
            exact j2'
          · left
            obtain ⟨i'', b1', b2'⟩ := hW'.2.2.2.2.2.2.1 x' a1'
            have b3' : i' ≤ i'' := by
              refine Nat.le_of_not_lt (fun hlt2' => ?_)
              have := (t_msE H' i' x').mpr ⟨i'', hlt2', b2'⟩
              rw [this] at a2'
              cases a2'.2
            have b4' : ∀ j', i' ≤ j' → j' < i'' → t_tp H' s' (t_ho H' j') = false := by
              intro j' c1' c2'
              cases ht' : t_tp H' s' (t_ho H' j')
              · rfl
              · exfalso
                have c3' := a3' (t_ho H' j') (hW'.2.2.2.2.1 j' (by omega)) (by rw [t_msN hW' c1' (by omega), ht']; rfl)
                have c4' := hW'.2.2.2.2.2.1 j' i'' c2' b1'
                rw [b2'] at c4'
                rcases c3' with c3' | c3'
                · have := t_hoI hW' (i' := j') (j' := i'') (by omega) b1' (by rw [c3', b2'])
                  omega
                · exact t_prA c3' c4'
            have hz' : t_q H' s' i'' = t_q H' s' i' := by
              rw [show i'' = i' + (i'' - i') by omega]
              exact t_qZ H' s' i' _ (fun j' c1' c2' => b4' j' c1' (by omega))
            have hq1' : t_q H' s' (i'' + 1) = ((t_q H' s' i').1 - 1, fun y' => (t_q H' s' i').2 y' || y' == x') := by
              rw [t_q, hz', b2', if_pos ⟨by omega, a2'.1⟩]
            simp (disch := omega) only [↓ce_87 hB', rf_87 hB', ↓ce_102 hB', ↓nn_31, ↓nn_33, ↓nn_89, ↓nn_90, ↓nn_91, ↓nn_92, ↓nn_93, ↓nn_94, ↓nn_95, ↓nn_96, ↓nn_97, ↓nn_98, ↓nn_99, ↓nn_100, ↓nn_101, ↓nn_102, ↓nn_103, ↓nn_104, ↓nn_105, ↓nn_106, ↓nn_107, ↓nn_108, p_bs, p_rq0, p_rq1, p_rz0, p_rz1, p_us, p_un, p_uj, ↓reduceIte, p_cm, hl', p_dec, t_BX, p_ar]
            refine ⟨_, rfl, True.intro, i'' + 1, _, by omega, by omega, by
              rw [hq1']
              refine congrArg (fun z' => (Int32.ofNat ((t_q H' s' i').1 - 1), z' ^^^ (-1 : Int32), Int32.ofNat (n' + 1), (q_u2 J' 102 x' 1, X'))) (t_BC (fun g' hg' => ?_))
              cases ht' : t_tp H' s' g'
              · rfl
              · rw [Bool.true_and, Bool.true_and, Bool.eq_iff_iff]
                simp only [Bool.and_eq_true, Bool.not_eq_true', beq_eq_false_iff_ne, ne_eq]
                constructor
                · rintro ⟨d1', d2'⟩
                  cases hm' : t_ms H' (i'' + 1) g'
                  · rfl
                  · obtain ⟨j', e1', e2'⟩ := (t_msE H' _ g').mp hm'
                    exfalso
                    by_cases f1' : j' < i'
                    · rw [(t_msE H' i' g').mpr ⟨j', f1', e2'⟩] at d1'; cases d1'
                    · by_cases f2' : j' = i''
                      · subst f2'; exact d2' (by rw [← e2', b2'])
                      · have := b4' j' (by omega) (by omega)
                        rw [e2', ht'] at this; cases this
                · intro d1'
                  have d2' : ∀ j', j' < i'' + 1 → t_ho H' j' ≠ g' := fun j' e1' e2' => by
                    rw [(t_msE H' _ g').mpr ⟨j', e1', e2'⟩] at d1'; cases d1'
                  refine ⟨?_, fun e' => d2' i'' (by omega) (by rw [b2', e'])⟩
                  cases hm' : t_ms H' i' g'
                  · rfl
                  · obtain ⟨j', e1', e2'⟩ := (t_msE H' _ g').mp hm'
                    exact absurd e2' (d2' j' (by omega)), ?_, ?_⟩
            · intro y' hy'; rw [p_uc _ _ _ _ _ hy']; exact j1' y' hy'
            · intro g' hg'
              rw [hq1']
              show _ = t_b ((t_q H' s' i').2 g' || g' == x')
              by_cases e' : g' = x'
              · subst e'; rw [p_us]; simp [t_b]
              · rw [p_uj _ _ _ _ _ e', j2' g' hg', beq_false_of_ne e', Bool.or_false]
      · right
        have hi'' : i' = t_ng H' := by omega
        have hn'' : n' = t_ng H' := by omega
        subst hi''
        unfold B_X12_goTable_79
        simp (disch := omega) only [↓ce_87 hB', rf_87 hB', ↓nn_31, ↓nn_33, ↓nn_89, ↓nn_90, ↓nn_91, ↓nn_92, ↓nn_93, ↓nn_94, ↓nn_95, ↓nn_96, ↓nn_97, ↓nn_98, ↓nn_99, ↓nn_100, ↓nn_101, ↓nn_102, ↓nn_103, ↓nn_104, ↓nn_105, ↓nn_106, ↓nn_107, ↓nn_108, p_bs, p_rq0, p_rq1, p_rz0, p_rz1, p_us, p_un, p_uj, ↓reduceIte, hM''.2.2.2.2, p_lt, hn'', Nat.lt_irrefl]
        exact ⟨_, rfl, J', .inr rfl, j1', j2'⟩) (t_ng H') 0 q_fu (t_sv H' s', t_B (t_tp H' s') ^^^ (-1 : Int32), (0 : Int32), (I', X')) (by omega) (by unfold q_fu; omega)
      ⟨0, I', by omega, by omega, by
        rw [t_q, hnn', ← hn0']
        refine congrArg (fun z' => (t_sv H' s', z' ^^^ (-1 : Int32), (0 : Int32), (I', X'))) (t_BC (fun g' _ => ?_))
        simp [t_ms], fun _ _ => rfl, fun g' hg' => by rw [h0' g' hg']; rfl⟩
  exact ⟨J', e', h1', h2'⟩
theorem s_mfeed2 (hB' : p_B X') (hM' : t_HM H' I') (hW' : t_HW H') (hS' : t_WF H' s') (hc' : t_RK c') (hR' : t_RG s' (I' c')) (h64' : ∀ g', g' < 6 → I' 102 g' = t_b (t_fd H' s' g')) :
    ∃ I'', q_lp (fun z' => B_X12_goTable_186 87 c' z'.1 z'.2.1 z'.2.2) q_fu (Int32.ofNat (t_q H' s' (t_ng H')).1, (0 : Int32), (I', X')) = some (Int32.ofNat (t_r H' s' (t_ng H')).1, (I'', X')) ∧ (∀ x', x' ≠ 102 → I'' x' = I' x') ∧ (∀ g', g' < 6 → I'' 102 g' = t_pl H' s' g') := by
  have hng' : t_ng H' ≤ 6 := hW'.2.2.2.1
  obtain ⟨n', hn', hn6'⟩ := t_svN hS'
  have hnn' : (t_sv H' s').toNatClampNeg = n' := by rw [hn', p_nat _ (by omega)]
  have hq0' := t_qL H' s' (t_ng H')
  obtain ⟨e', h1', I'', rfl, h2'⟩ := p_lp (fun z' => B_X12_goTable_186 87 c' z'.1 z'.2.1 z'.2.2) (fun i' z' => ∃ J', z' = (Int32.ofNat (t_r H' s' i').1, Int32.ofNat i', (J', X')) ∧ (∀ x', x' ≠ 102 → J' x' = I' x') ∧ (∀ g', g' < 6 → J' 102 g' = t_b (t_fd H' s' g') + t_b ((t_r H' s' i').2 g')))
    (fun e' => ∃ I'', e' = (Int32.ofNat (t_r H' s' (t_ng H')).1, (I'', X')) ∧ (∀ x', x' ≠ 102 → I'' x' = I' x') ∧ (∀ g', g' < 6 → I'' 102 g' = t_pl H' s' g')) (t_ng H') (by
      rintro i' z' hi' ⟨J', rfl, j1', j4'⟩
      have hM'' : t_HM H' J' := t_HMk hM' (j1' 92 (by decide)) (j1' 94 (by decide)) (j1' 96 (by decide)) (by rw [j1' 87 (by decide)]) (by rw [j1' 87 (by decide)])
      have hcn' : c' ≠ 102 := by omega
      have hR'' : t_RG s' (J' c') := by rw [j1' c' hcn']; exact hR'
      have hr' := t_rL H' s' i'
      by_cases hlt' : i' < t_ng H'
      · have hT' := s_misThere hB' hM'' hW' hS' hc' hR'' i' hlt'
        have hC' := s_comes hB' hM'' hW' i' hlt'
        have w0' : J' c' (4 * i') = s' (13 + i') := (hR''.1 i' (by omega)).1
        have htp' : t_tp H' s' i' = t_th H' s' i' := by simp [t_tp, hlt']
        unfold B_X12_goTable_186 J_X12_goTable_250_186
        simp (disch := omega) only [↓ce_87 hB', rf_87 hB', ↓ce_102 hB', ↓nn_31, ↓nn_33, ↓nn_89, ↓nn_90, ↓nn_91, ↓nn_92, ↓nn_93, ↓nn_94, ↓nn_95, ↓nn_96, ↓nn_97, ↓nn_98, ↓nn_99, ↓nn_100, ↓nn_101, ↓nn_102, ↓nn_103, ↓nn_104, ↓nn_105, ↓nn_106, ↓nn_107, ↓nn_108, p_bs, p_rq0, p_rq1, p_rz0, p_rz1, p_us, p_un, p_uj, ↓reduceIte, p_mr hc' hB', hM''.2.2.2.2, p_lt, hlt', p_cm, hT', hC', t_b0, p_ar, Nat.add_zero, w0', hR''.2.2.2]
        by_cases hc1' : 0 < (t_r H' s' i').1
        · left
          by_cases hc' : t_ld H' s' i' = true
          · have hr1' : t_r H' s' (i' + 1) = ((t_r H' s' i').1 - 1, fun x' => (t_r H' s' i').2 x' || x' == i') := by rw [t_r, if_pos ⟨hc1', hc'⟩]
            have hc'' := hc'
            unfold t_ld at hc''
            simp only [Bool.and_eq_true, decide_eq_true_eq, htp'] at hc''
            refine ⟨_, by simp only [hc1', hc''.1, ← hc''.2, ↓reduceIte, Bool.true_eq_false, p_dec _ hc1']; rfl, True.intro, _, by rw [hr1'], ?_, ?_⟩
            · intro x' h1'; rw [p_uc _ _ _ _ _ h1']; exact j1' x' h1'
            · intro g' hg'
              rw [hr1']
              show _ = _ + t_b ((t_r H' s' i').2 g' || g' == i')
              by_cases eg' : g' = i'
              · subst eg'
                have hx' : (t_r H' s' g').2 g' = false := by
                  cases hx' : (t_r H' s' g').2 g'
                  · rfl
                  · exact absurd (t_rM _ _ _ _ hx') (by omega)
                rw [p_us, j4' g' hg', hx']
                cases t_fd H' s' g' <;> simp [t_b]
              · rw [p_uj _ _ _ _ _ eg', j4' g' hg', beq_false_of_ne eg', Bool.or_false]
          · have hr1' : t_r H' s' (i' + 1) = t_r H' s' i' := by rw [t_r, if_neg (fun h' => hc' h'.2)]
            refine ⟨_, by
              cases hx' : t_th H' s' i'
              · simp only [hc1', ↓reduceIte]; rfl
              · have hy' : ¬ s' 0 = t_hg H' (i' * 4) + s' (13 + i') - 1 := fun e' => hc' (by simp [t_ld, htp', hx', ← e'])
                simp only [hc1', hy', ↓reduceIte, Bool.true_eq_false], True.intro, J', by rw [hr1'], j1', ?_⟩
            rw [hr1']
            exact j4'
        · right
          have hz' : t_r H' s' (t_ng H') = t_r H' s' i' := by
            rw [show t_ng H' = i' + (t_ng H' - i') by omega]
            exact t_rS _ _ _ _ (by omega)
          refine ⟨_, by simp only [hc1', ↓reduceIte]; rfl, J', by rw [hz'], j1', ?_⟩
          intro g' hg'
          rw [j4' g' hg', t_pl, hz']
      · right
        have hi'' : i' = t_ng H' := by omega
        subst hi''
        unfold B_X12_goTable_186
        simp (disch := omega) only [↓ce_87 hB', rf_87 hB', ↓nn_31, ↓nn_33, ↓nn_89, ↓nn_90, ↓nn_91, ↓nn_92, ↓nn_93, ↓nn_94, ↓nn_95, ↓nn_96, ↓nn_97, ↓nn_98, ↓nn_99, ↓nn_100, ↓nn_101, ↓nn_102, ↓nn_103, ↓nn_104, ↓nn_105, ↓nn_106, ↓nn_107, ↓nn_108, p_bs, p_rq0, p_rq1, p_rz0, p_rz1, p_us, p_un, p_uj, ↓reduceIte, hM''.2.2.2.2, p_lt, Nat.lt_irrefl]
        refine ⟨_, rfl, J', rfl, j1', ?_⟩
        intro g' hg'
        rw [j4' g' hg', t_pl]) (t_ng H') 0 q_fu (Int32.ofNat (t_q H' s' (t_ng H')).1, (0 : Int32), (I', X')) (by omega) (by unfold q_fu; omega) ⟨I', by rw [t_r]; rfl, fun _ _ => rfl, fun g' hg' => by rw [h64' g' hg', t_r]; simp [t_b]⟩
  exact ⟨I'', h1', h2'⟩
/-- what goTable tells -/
def t_TM (H' : t_H) (s' : Nat → Int32) (I' : p_I) : Prop := I' 87 37 = t_ds H' s' ∧ I' 87 38 = t_wm H' s' ∧ I' 87 39 = t_sv H' s' ∧ I' 87 40 = Int32.ofNat (t_r H' s' (t_ng H')).1 ∧ (∀ g', g' < 6 → I' 102 g' = t_pl H' s' g')
theorem t_RGw {D' : Nat} {w' : Nat → Int32} (h' : t_RG s' w') : t_RG s' (t_w1 H' s' w' D') := by
  obtain ⟨h1', h2', h3', h4'⟩ := h'
  refine ⟨fun g' hg' => ?_, ?_, ?_, ?_⟩
  · obtain ⟨a1', a2', a3', a4'⟩ := h1' g' hg'
    unfold t_w1
    simp (disch := omega) only [p_vn]
    exact ⟨a1', a2', a3', a4'⟩
  · unfold t_w1; simp (disch := omega) only [p_vn]; exact h2'
  · unfold t_w1; simp (disch := omega) only [p_vn]; exact h3'
  · unfold t_w1; simp (disch := omega) only [p_vn]; exact h4'
theorem s_goTable (hB' : p_B X') (hM' : t_HM H' I') (hW' : t_HW H') (hS' : t_WF H' s') (hc' : t_RK c') (hR' : t_RS s' (I' c')) {D' : Nat} (hD' : s' 0 = Int32.ofNat D') (hD'' : D' ≤ 2000) :
    ∃ I'', F_X12_goTable 87 c' (I', X') = some ((), I'', X') ∧ (∀ x', x' ≠ 87 → x' ≠ 102 → x' ≠ c' → I'' x' = I' x') ∧ (∀ j', j' ≠ 37 → j' ≠ 38 → j' ≠ 39 → j' ≠ 40 → I'' 87 j' = I' 87 j') ∧ t_TM H' s' I'' ∧ I'' c' = t_w1 H' s' (I' c') D' := by
  have hcn' : c' ≠ 87 ∧ c' ≠ 102 ∧ c' ≠ 92 ∧ c' ≠ 94 ∧ c' ≠ 96 := by omega
  obtain ⟨hR1', hR2', hR3'⟩ := hR'
  have h35' : I' c' 35 = Int32.ofNat D' := by rw [hR1'.2.2.2, hD']
  have e2' : Int32.ofNat D' - Int32.ofNat D' / 4 * 4 = Int32.ofNat (D' % 4) := t_mod D' 4 (by omega) (by omega) (by omega)
  have hck' := s_cooks hB' hM' hW' hS' hc' hR1'
  unfold F_X12_goTable q_rmi
  simp (disch := omega) only [↓ce_87 hB', rf_87 hB', ↓nn_31, ↓nn_33, ↓nn_89, ↓nn_90, ↓nn_91, ↓nn_92, ↓nn_93, ↓nn_94, ↓nn_95, ↓nn_96, ↓nn_97, ↓nn_98, ↓nn_99, ↓nn_100, ↓nn_101, ↓nn_102, ↓nn_103, ↓nn_104, ↓nn_105, ↓nn_106, ↓nn_107, ↓nn_108, p_bs, p_rq0, p_rq1, p_rz0, p_rz1, p_us, p_un, p_uj, ↓reduceIte, p_mr hc' hB', h35', p_m4, e2', hck', p_ar]
  have hM1' : t_HM H' (q_u2 I' c' (24 + 2 * (D' % 4)) (t_ck H' s')) := t_HMk hM' (by rw [p_uc _ _ _ _ _ hcn'.2.2.1.symm]) (by rw [p_uc _ _ _ _ _ hcn'.2.2.2.1.symm]) (by rw [p_uc _ _ _ _ _ hcn'.2.2.2.2.symm]) (by rw [p_uc _ _ _ _ _ hcn'.1.symm]) (by rw [p_uc _ _ _ _ _ hcn'.1.symm])
  have hR1a : t_RG s' (q_u2 I' c' (24 + 2 * (D' % 4)) (t_ck H' s') c') := by
    rw [p_ur]
    obtain ⟨h1', h2', h3', h4'⟩ := hR1'
    refine ⟨fun g' hg' => ?_, ?_, ?_, ?_⟩
    · simp (disch := omega) only [p_vn]; exact h1' g' hg'
    · simp (disch := omega) only [p_vn]; exact h2'
    · simp (disch := omega) only [p_vn]; exact h3'
    · simp (disch := omega) only [p_vn]; exact h4'
  have hT1' := s_thereBits hB' hM1' hW' hS' hc' hR1a
  simp (disch := omega) only [↓ce_87 hB', rf_87 hB', ↓nn_31, ↓nn_33, ↓nn_89, ↓nn_90, ↓nn_91, ↓nn_92, ↓nn_93, ↓nn_94, ↓nn_95, ↓nn_96, ↓nn_97, ↓nn_98, ↓nn_99, ↓nn_100, ↓nn_101, ↓nn_102, ↓nn_103, ↓nn_104, ↓nn_105, ↓nn_106, ↓nn_107, ↓nn_108, p_bs, p_rq0, p_rq1, p_rz0, p_rz1, p_us, p_un, p_uj, ↓reduceIte, hT1', t_bcE, p_mr hc' hB']
  generalize hI2' : q_u2 (q_u2 I' c' (24 + 2 * (D' % 4)) (t_ck H' s')) c' (24 + 2 * (D' % 4) + 1) (t_bc (t_B (t_tp H' s'))) = I2'
  have f2' : I2' c' = t_w1 H' s' (I' c') D' := by rw [← hI2', p_ur, p_ur]; rfl
  have g2' : ∀ x', x' ≠ c' → I2' x' = I' x' := fun x' hx' => by rw [← hI2', p_uc _ _ _ _ _ hx', p_uc _ _ _ _ _ hx']
  have hM2' : t_HM H' I2' := t_HMk hM' (g2' _ hcn'.2.2.1.symm) (g2' _ hcn'.2.2.2.1.symm) (g2' _ hcn'.2.2.2.2.symm) (by rw [g2' _ hcn'.1.symm]) (by rw [g2' _ hcn'.1.symm])
  have hR2'' : t_RG s' (I2' c') := by rw [f2']; exact t_RGw hR1'
  obtain ⟨I3', a1', a2', a3', a4', a5', a6'⟩ := s_mserves hB' hM2' hW' hS' hc' hR2'' (fun D2' h' q1' q2' q3' q4' q5' => by
    have : D2' = D' := by
      have := q1'.symm.trans hD'
      rwa [p_eq D2' D' (by omega) (by omega)] at this
    subst this
    rw [f2']
    exact t_potR hR2' hD' q2' q3' hD'' q5')
  have hM3' : t_HM H' I3' := t_HMk hM2' (a2' _ (by decide)) (a2' _ (by decide)) (a2' _ (by decide)) (a3' _ (by decide) (by decide) (by decide)) (a3' _ (by decide) (by decide) (by decide))
  have hR3'' : t_RG s' (I3' c') := by rw [a2' c' hcn'.1]; exact hR2''
  have hT3' := s_thereBits hB' hM3' hW' hS' hc' hR3''
  simp (disch := omega) only [↓ce_87 hB', rf_87 hB', ↓nn_31, ↓nn_33, ↓nn_89, ↓nn_90, ↓nn_91, ↓nn_92, ↓nn_93, ↓nn_94, ↓nn_95, ↓nn_96, ↓nn_97, ↓nn_98, ↓nn_99, ↓nn_100, ↓nn_101, ↓nn_102, ↓nn_103, ↓nn_104, ↓nn_105, ↓nn_106, ↓nn_107, ↓nn_108, p_bs, p_rq0, p_rq1, p_rz0, p_rz1, p_us, p_un, p_uj, ↓reduceIte, a1', a6', hT3']
  obtain ⟨I4', b1', b2', b3'⟩ := s_plate0 (I' := I3') (c' := c') hB' (t_sv H' s') (t_B (t_tp H' s') ^^^ (-1 : Int32))
  have hM4' : t_HM H' I4' := t_HMk hM3' (b2' _ (by decide)) (b2' _ (by decide)) (b2' _ (by decide)) (by rw [b2' _ (by decide)]) (by rw [b2' _ (by decide)])
  obtain ⟨I5', e', c1', c2', c3', c4'⟩ := s_mfeed1 (c' := c') hB' hM4' hW' hS' b3'
  have hM5' : t_HM H' I5' := t_HMk hM4' (c3' _ (by decide)) (c3' _ (by decide)) (c3' _ (by decide)) (by rw [c3' _ (by decide)]) (by rw [c3' _ (by decide)])
  have hR5' : t_RG s' (I5' c') := by rw [c3' c' hcn'.2.1, b2' c' hcn'.2.1]; exact hR3''
  obtain ⟨I6', d1', d2', d3'⟩ := s_mfeed2 hB' hM5' hW' hS' hc' hR5' c4'
  have hJ' : J_X12_goTable_183 87 c' (Int32.ofNat (t_q H' s' (t_ng H')).1) (I5', X') = some ((), q_u2 I6' 87 40 (Int32.ofNat (t_r H' s' (t_ng H')).1), X') := by
    unfold J_X12_goTable_183
    simp (disch := omega) only [↓ce_87 hB', rf_87 hB', ↓nn_31, ↓nn_33, ↓nn_89, ↓nn_90, ↓nn_91, ↓nn_92, ↓nn_93, ↓nn_94, ↓nn_95, ↓nn_96, ↓nn_97, ↓nn_98, ↓nn_99, ↓nn_100, ↓nn_101, ↓nn_102, ↓nn_103, ↓nn_104, ↓nn_105, ↓nn_106, ↓nn_107, ↓nn_108, p_bs, p_rq0, p_rq1, p_rz0, p_rz1, p_us, p_un, p_uj, ↓reduceIte, d1']
  refine ⟨q_u2 I6' 87 40 (Int32.ofNat (t_r H' s' (t_ng H')).1), ?_, ?_, ?_, ?_, ?_⟩
  · rw [b1']
    simp only [p_bs]
    rw [c1']
    simp only [p_bs]
    rcases c2' with rfl | rfl
    · exact hJ'
    · exact hJ'
  · intro x' x1' x2' x3'
    rw [p_uc _ _ _ _ _ x1', d2' x' x2', c3' x' x2', b2' x' x2', a2' x' x1', g2' x' x3']
  · intro j' x1' x2' x3' x4'
    rw [p_uj _ _ _ _ _ x4', d2' 87 (by decide), c3' 87 (by decide), b2' 87 (by decide), a3' j' x1' x2' x3', g2' 87 hcn'.1.symm]
  · have f' : I6' 87 = I3' 87 := by rw [d2' 87 (by decide), c3' 87 (by decide), b2' 87 (by decide)]
    refine ⟨?_, ?_, ?_, ?_, ?_⟩
    · rw [p_uj _ _ _ _ _ (by decide), f']; exact a4'
    · rw [p_uj _ _ _ _ _ (by decide), f']; exact a5'
    · rw [p_uj _ _ _ _ _ (by decide), f']; exact a6'
    · rw [p_us]
    · intro g' hg'; rw [p_un _ _ _ _ _ _ (by decide)]; exact d3' g' hg'
  · rw [p_uc _ _ _ _ _ hcn'.1, d2' c' hcn'.2.1, c3' c' hcn'.2.1, b2' c' hcn'.2.1, a2' c' hcn'.1, f2']
end PM'
