/-! LAWS: what a text tells, the code, the worth -/
abbrev t_V : Type := (Nat → Int32) → Int32
abbrev t_R : Type := Nat ⊕ (Nat × List Int32 × t_V)
def t_cl64 (x' : Int64) : Int32 := if 1000000 < x' then 1000000 else if x' < -1000000 then -1000000 else x'.toInt32
theorem s_cl151 (x' : Int64) (M' : q_Mem) : J_X4_joined_151 x' M' = some (t_cl64 x') := by
  unfold J_X4_joined_151 t_cl64
  simp only [p_lgl, p_lgg]
  by_cases h1' : 1000000 < x'
  · simp only [h1', ↓reduceIte]; rfl
  · by_cases h2' : x' < -1000000
    · simp only [h1', h2', ↓reduceIte]; rfl
    · simp only [h1', h2', ↓reduceIte]
theorem s_within (x' : Int64) (M' : q_Mem) : F_X12_within x' M' = some (t_cl64 x') := by
  unfold F_X12_within t_cl64 q_mxl q_mnl
  have e1' : (1000000 : Int64).toInt = 1000000 := by decide
  have e2' : (-1000000 : Int64).toInt = -1000000 := by decide
  simp only [Int64.lt_iff_toInt_lt, e1', e2']
  by_cases h1' : x'.toInt < 1000000
  · have h1'' : ¬ 1000000 < x'.toInt := by omega
    by_cases h2' : x'.toInt < -1000000
    · simp only [h1', h1'', h2', ↓reduceIte]; rfl
    · simp only [h1', h1'', h2', ↓reduceIte]
  · have h2' : ¬ x'.toInt < -1000000 := by omega
    simp only [h1', ↓reduceIte, e1', show ¬ ((1000000 : Int) < -1000000) by omega]
    by_cases h3' : 1000000 < x'.toInt
    · simp only [h3', ↓reduceIte]; rfl
    · have h4' : x' = 1000000 := by
        apply Int64.toInt_inj.mp
        rw [e1']; omega
      subst h4'
      decide
theorem t_clB (x' : Int64) : -1000000 ≤ (t_cl64 x').toInt ∧ (t_cl64 x').toInt ≤ 1000000 := by
  unfold t_cl64
  have e1' : (1000000 : Int64).toInt = 1000000 := by decide
  have e2' : (-1000000 : Int64).toInt = -1000000 := by decide
  have e3' : (1000000 : Int32).toInt = 1000000 := by decide
  have e4' : (-1000000 : Int32).toInt = -1000000 := by decide
  simp only [Int64.lt_iff_toInt_lt, e1', e2']
  by_cases h1' : 1000000 < x'.toInt
  · simp only [h1', ↓reduceIte, e3']; omega
  · by_cases h2' : x'.toInt < -1000000
    · simp only [h1', h2', ↓reduceIte, e4']; omega
    · simp only [h1', h2', ↓reduceIte]
      rw [Int64.toInt_toInt32, Int.bmod_eq_of_le (by omega) (by omega)]
      omega
def t_jn (op' a' b' : Int32) : Int32 := if op' = -15 then t_cl64 (a' ||| b').toInt64 else if op' = -14 then t_cl64 (a' &&& b').toInt64 else if op' = -13 then (if b' < a' then 1 else 0) else if op' = -12 then (if a' < b' then 1 else 0) else if op' = -11 then (if a' = b' then 1 else 0)
  else if op' = -10 then (if b' = 0 then 0 else t_cl64 (a' / b').toInt64) else if op' = -9 then t_cl64 (a'.toInt64 * b'.toInt64) else if op' = -8 then t_cl64 (a' - b').toInt64 else if op' = -7 then t_cl64 (a' + b').toInt64 else 0
theorem t_cl0 : t_cl64 0 = 0 := by decide
theorem t_cl1 : t_cl64 1 = 1 := by decide
theorem s_joined (op' a' b' : Int32) (M' : q_Mem) : F_X4_joined op' a' b' M' = some (t_jn op' a' b') := by
  unfold F_X4_joined t_jn J_X4_joined_131 J_X4_joined_117 J_X4_joined_103 J_X4_joined_89 q_dvi
  simp only [s_cl151, t_cl0, t_cl1]
  split
  · rfl
  · split
    · rfl
    · split
      · split <;> rfl
      · split
        · split <;> rfl
        · split
          · split <;> rfl
          · split
            · split
              · rfl
              · rfl
            · split
              · rfl
              · split
                · rfl
                · split <;> rfl
theorem t_jnB (op' a' b' : Int32) : -1000000 ≤ (t_jn op' a' b').toInt ∧ (t_jn op' a' b').toInt ≤ 1000000 := by
  have z0' : (0 : Int32).toInt = 0 := rfl
  have z1' : (1 : Int32).toInt = 1 := rfl
  unfold t_jn
  split
  · exact t_clB _
  · split
    · exact t_clB _
    · split
      · split <;> omega
      · split
        · split <;> omega
        · split
          · split <;> omega
          · split
            · split
              · omega
              · exact t_clB _
            · split
              · exact t_clB _
              · split
                · exact t_clB _
                · split
                  · exact t_clB _
                  · omega
/-- one instruction of a law's code, over a stack (its top first) -/
def t_op (ρ : Nat → Int32) (op' : Int32) (st' : List Int32) : Option (List Int32) :=
  if op' = -18 ∨ op' = -17 then none
  else if op' < -6 then (if op' = -16 then (match st' with
    | a' :: s' => some ((1 - a') :: s')
    | [] => none) else (match st' with
    | b' :: a' :: s' => some (t_jn op' a' b' :: s')
    | _ => none))
  else if st'.length < 32 then some ((if op' < 0 then ρ (op' - (-6)).toNatClampNeg else op') :: st') else none
def t_run (ρ : Nat → Int32) : List Int32 → List Int32 → Option (List Int32)
  | [], st' => some st'
  | op' :: r', st' => (t_op ρ op' st').bind (t_run ρ r')
theorem t_runA (ρ : Nat → Int32) (c' d' st' : List Int32) : t_run ρ (c' ++ d') st' = (t_run ρ c' st').bind (t_run ρ d') := by
  induction c' generalizing st' with
  | nil => rfl
  | cons op' c' ih' =>
    show (t_op ρ op' st').bind (t_run ρ (c' ++ d')) = ((t_op ρ op' st').bind (t_run ρ c')).bind (t_run ρ d')
    cases t_op ρ op' st' with
    | none => rfl
    | some s' => exact ih' s'
theorem t_runJ (ρ : Nat → Int32) (op' a' b' : Int32) (st' : List Int32) (h' : op' = -7 ∨ op' = -8 ∨ op' = -9 ∨ op' = -10 ∨ op' = -11 ∨ op' = -12 ∨ op' = -13 ∨ op' = -14 ∨ op' = -15) : t_run ρ [op'] (b' :: a' :: st') = some (t_jn op' a' b' :: st') := by
  have h1' : ¬ (op' = -18 ∨ op' = -17) := by rcases h' with h' | h' | h' | h' | h' | h' | h' | h' | h' <;> subst h' <;> decide
  have h2' : op' < -6 := by rcases h' with h' | h' | h' | h' | h' | h' | h' | h' | h' <;> subst h' <;> decide
  have h3' : ¬ op' = -16 := by rcases h' with h' | h' | h' | h' | h' | h' | h' | h' | h' <;> subst h' <;> decide
  show (t_op ρ op' (b' :: a' :: st')).bind (t_run ρ []) = _
  unfold t_op
  rw [if_neg h1', if_pos h2', if_neg h3']
  rfl
theorem t_runN (ρ : Nat → Int32) (a' : Int32) (st' : List Int32) : t_run ρ [-16] (a' :: st') = some ((1 - a') :: st') := rfl
/-- a good result of a reader from e on -/
def t_GR (n' need e' e0' : Nat) (tr' : Prop) (r' : t_R) : Prop := match r' with
  | .inl x' => e' ≤ x' ∧ x' ≤ n'
  | .inr (x', c', v') => e' < x' ∧ x' ≤ n' ∧ c'.length + e' ≤ x' + e0' ∧ 0 < c'.length ∧ ∀ ρ, t_Lb ρ → (-1000000 ≤ (v' ρ).toInt ∧ (v' ρ).toInt ≤ 1000000) ∧ (tr' → v' ρ = 0 ∨ v' ρ = 1) ∧ ∀ st' : List Int32, st'.length + need ≤ 32 → t_run ρ c' st' = some (v' ρ :: st')
def t_lets : Nat → Nat := t_gl0 [119, 108, 102, 110, 112, 100]
def t_s1 : Nat → Nat := t_gl0 [42, 47]
def t_s2 : Nat → Nat := t_gl0 [43, 45]
def t_s3 : Nat → Nat := t_gl0 [61, 60, 62]
def t_s4 : Nat → Nat := t_gl0 [33, 40]
def t_atm (β : Nat → Nat) (n' : Nat) (inner : Option (Nat → t_R)) (e' : Nat) : t_R := match t_pa β n' t_lets 6 (t_sk β n' e') with
  | some k' => .inr (t_sk β n' e' + 1, [-6 + Int32.ofNat k'], fun ρ => ρ k')
  | none => match (if t_is β n' (t_sk β n' e') 91 = true then inner else none) with
    | some S' => (match S' (t_sk β n' e' + 1) with
      | .inl x' => .inl x'
      | .inr (x', c', v') => if t_is β n' (t_sk β n' x') 93 = true then .inr (t_sk β n' x' + 1, c', v') else .inl (t_sk β n' x'))
    | none => (match t_nm β n' 4 0 9999 (t_sk β n' e') with
      | .inl x' => .inl x'
      | .inr (x', v') => .inr (x', [Int32.ofNat v'], fun _ => Int32.ofNat v'))
def t_lpA (β : Nat → Nat) (n' : Nat) (A' : Nat → t_R) (ts' : Nat → Nat) (m' : Nat) (op0' : Int32) : Nat → Nat → List Int32 → t_V → t_R
  | 0, e', _, _ => .inl e'
  | f' + 1, e', c', v' => match t_pa β n' ts' m' (t_sk β n' e') with
    | none => .inr (t_sk β n' e', c', v')
    | some w' => match A' (t_sk β n' e' + 1) with
      | .inl x' => .inl x'
      | .inr (x', c2', v2') => t_lpA β n' A' ts' m' op0' f' x' (c' ++ c2' ++ [op0' - Int32.ofNat w']) (fun ρ => t_jn (op0' - Int32.ofNat w') (v' ρ) (v2' ρ))
def t_lpS (β : Nat → Nat) (n' : Nat) (A' : Nat → t_R) (ts' : Nat → Nat) (m' : Nat) (op0' : Int32) (e' : Nat) : t_R := match A' e' with
  | .inl x' => .inl x'
  | .inr (x', c', v') => t_lpA β n' A' ts' m' op0' 240 x' c' v'
def t_trm (β : Nat → Nat) (n' : Nat) (inner : Option (Nat → t_R)) : Nat → t_R := t_lpS β n' (t_atm β n' inner) t_s1 2 (-9)
def t_smm (β : Nat → Nat) (n' : Nat) (inner : Option (Nat → t_R)) : Nat → t_R := t_lpS β n' (t_trm β n' inner) t_s2 2 (-7)
def t_sum (β : Nat → Nat) (n' : Nat) : Nat → Nat → t_R
  | 0 => t_smm β n' none
  | k' + 1 => t_smm β n' (some (t_sum β n' k'))
def t_cmp (β : Nat → Nat) (n' : Nat) (S' : Nat → t_R) (x' : Nat) (c' : List Int32) (v' : t_V) : t_R := match t_pa β n' t_s3 3 (t_sk β n' x') with
  | none => .inl (t_sk β n' x')
  | some w' => match S' (t_sk β n' x' + 1) with
    | .inl y' => .inl y'
    | .inr (y', c2', v2') => .inr (y', c' ++ c2' ++ [-11 - Int32.ofNat w'], fun ρ => t_jn (-11 - Int32.ofNat w') (v' ρ) (v2' ρ))
abbrev t_Bg : Type := Option (List Int32 × t_V)
def t_utB (β : Nat → Nat) (n' : Nat) (S' : Nat → t_R) (inner : Option ((Nat → t_R) × (Nat → t_R))) (b' : t_Bg) (e' : Nat) : t_R := match b' with
  | some (c', v') => t_cmp β n' S' e' c' v'
  | none => match t_pa β n' t_s4 2 (t_sk β n' e') with
    | none => (match S' (t_sk β n' e') with
      | .inl x' => .inl x'
      | .inr (x', c', v') => t_cmp β n' S' x' c' v')
    | some w' => match inner with
      | none => .inl (t_sk β n' e')
      | some (U', C') => if w' = 0 then (match U' (t_sk β n' e' + 1) with
          | .inl x' => .inl x'
          | .inr (x', c', v') => .inr (x', c' ++ [-16], fun ρ => 1 - v' ρ))
        else (match C' (t_sk β n' e' + 1) with
          | .inl x' => .inl x'
          | .inr (x', c', v') => if t_is β n' (t_sk β n' x') 41 = true then .inr (t_sk β n' x' + 1, c', v') else .inl (t_sk β n' x'))
def t_lpU (β : Nat → Nat) (n' : Nat) (U' : t_Bg → Nat → t_R) (sg' : Nat) (op' : Int32) : Nat → Nat → List Int32 → t_V → t_R
  | 0, e', c', v' => .inr (e', c', v')
  | f' + 1, e', c', v' => if t_is β n' (t_sk β n' e') sg' = true then (match U' none (t_sk β n' e' + 1) with
      | .inl x' => .inl x'
      | .inr (x', c2', v2') => t_lpU β n' U' sg' op' f' x' (c' ++ c2' ++ [op']) (fun ρ => t_jn op' (v' ρ) (v2' ρ)))
    else .inr (t_sk β n' e', c', v')
def t_lpB (β : Nat → Nat) (n' : Nat) (U' : t_Bg → Nat → t_R) (sg' : Nat) (op' : Int32) (b' : t_Bg) (e' : Nat) : t_R := match U' b' e' with
  | .inl x' => .inl x'
  | .inr (x', c', v') => t_lpU β n' U' sg' op' 240 x' c' v'
def t_cndO (β : Nat → Nat) (n' : Nat) (U' : t_Bg → Nat → t_R) : t_Bg → Nat → t_R := t_lpB β n' (t_lpB β n' U' 38 (-14)) 124 (-15)
def t_unt (β : Nat → Nat) (n' : Nat) : Nat → t_Bg → Nat → t_R
  | 0 => t_utB β n' (t_sum β n' 0) none
  | k' + 1 => t_utB β n' (t_sum β n' (k' + 1)) (some (t_unt β n' k' none, t_cndO β n' (t_unt β n' k') none))
/-! the readers' results are good -/
section PL'
variable {β : Nat → Nat} {n' : Nat}
theorem t_dgsV (d' e' v' x' w' : Nat) (h' : t_dgs β n' d' e' v' = .inr (x', w')) (h1' : t_dg β n' e' = true) : w' < (v' + 1) * 10 ^ d' := by
  induction d' generalizing e' v' with
  | zero => cases h'
  | succ d' ih' =>
    have hb' := (t_dgE h1')
    have hp' : 0 < 10 ^ d' := Nat.pow_pos (by decide)
    have h10' : (v' + 1) * 10 ^ (d' + 1) = (10 * v' + 10) * 10 ^ d' := by
      rw [Nat.pow_succ, Nat.mul_comm (10 ^ d') 10, ← Nat.mul_assoc]
      congr 1
      omega
    rw [t_dgs] at h'
    split at h'
    · rename_i hd'
      have := ih' (e' + 1) _ h' hd'
      refine Nat.lt_of_lt_of_le this ?_
      rw [h10']
      exact Nat.mul_le_mul_right _ (by omega)
    · cases h'
      rw [h10']
      have : 10 * v' + (β e' - 48) < 10 * v' + 10 := by omega
      exact Nat.lt_of_lt_of_le this (Nat.le_mul_of_pos_right _ hp')
theorem t_nm4 (e' : Nat) (he' : e' ≤ n') : match t_nm β n' 4 0 9999 e' with
    | .inl x' => e' ≤ x' ∧ x' ≤ n'
    | .inr (x', v') => e' < x' ∧ x' ≤ n' ∧ v' ≤ 9999 := by
  have hB' := t_nmB (β := β) (n' := n') (d' := 4) (lo' := 0) (hi' := 9999) he'
  cases h' : t_nm β n' 4 0 9999 e' with
  | inl x' => have := hB'.1 x' h'; simp only; omega
  | inr z' => obtain ⟨x', v'⟩ := z'; have := hB'.2 x' v' h'; simp only; omega
theorem t_opL (k' : Nat) (hk' : k' < 6) : ¬ ((-6 : Int32) + Int32.ofNat k' = -18 ∨ (-6 : Int32) + Int32.ofNat k' = -17) ∧ ¬ (-6 : Int32) + Int32.ofNat k' < -6 ∧ (-6 : Int32) + Int32.ofNat k' < 0 ∧ ((-6 : Int32) + Int32.ofNat k' - (-6)).toNatClampNeg = k' := by
  have hh' : ∀ k' : Fin 6, ¬ ((-6 : Int32) + Int32.ofNat k' = -18 ∨ (-6 : Int32) + Int32.ofNat k' = -17) ∧ ¬ (-6 : Int32) + Int32.ofNat k' < -6 ∧ (-6 : Int32) + Int32.ofNat k' < 0 ∧ ((-6 : Int32) + Int32.ofNat k' - (-6)).toNatClampNeg = k' := by decide
  exact hh' ⟨k', hk'⟩
theorem t_opV (v' : Nat) (hv' : v' ≤ 9999) : ¬ (Int32.ofNat v' = -18 ∨ Int32.ofNat v' = -17) ∧ ¬ Int32.ofNat v' < -6 ∧ ¬ Int32.ofNat v' < 0 := by
  have h1' := p_toI v' (by omega)
  have h18' : (-18 : Int32).toInt = -18 := by decide
  have h17' : (-17 : Int32).toInt = -17 := by decide
  have h6' : (-6 : Int32).toInt = -6 := by decide
  refine ⟨?_, ?_, p_nn v' (by omega)⟩
  · rintro (h' | h')
    · have := congrArg Int32.toInt h'; omega
    · have := congrArg Int32.toInt h'; omega
  · rw [Int32.lt_iff_toInt_lt, h1', h6']; omega
theorem t_pushL (ρ : Nat → Int32) (k' : Nat) (hk' : k' < 6) (st' : List Int32) (hs' : st'.length + 1 ≤ 32) : t_run ρ [-6 + Int32.ofNat k'] st' = some (ρ k' :: st') := by
  obtain ⟨h1', h2', h3', h4'⟩ := t_opL k' hk'
  show (t_op ρ (-6 + Int32.ofNat k') st').bind (t_run ρ []) = _
  unfold t_op
  rw [if_neg h1', if_neg h2', if_pos (by omega), if_pos h3', h4']
  rfl
theorem t_pushV (ρ : Nat → Int32) (v' : Nat) (hv' : v' ≤ 9999) (st' : List Int32) (hs' : st'.length + 1 ≤ 32) : t_run ρ [Int32.ofNat v'] st' = some (Int32.ofNat v' :: st') := by
  obtain ⟨h1', h2', h3'⟩ := t_opV v' hv'
  show (t_op ρ (Int32.ofNat v') st').bind (t_run ρ []) = _
  unfold t_op
  rw [if_neg h1', if_neg h2', if_pos (by omega), if_neg h3']
  rfl
theorem t_GRatm {inner : Option (Nat → t_R)} {a' : Nat} (h1' : 1 ≤ a') (hin' : ∀ S', inner = some S' → ∀ e', e' ≤ n' → t_GR n' a' e' 0 False (S' e')) (e' : Nat) (he' : e' ≤ n') : t_GR n' a' e' 0 False (t_atm β n' inner e') := by
  have hL' := t_skL β n' e'
  have hU' := t_skU β n' e' he'
  unfold t_atm
  cases hpa' : t_pa β n' t_lets 6 (t_sk β n' e') with
  | some k' =>
    obtain ⟨p1', p2', p3'⟩ := t_paB hpa'
    refine ⟨by omega, by omega, ?_, ?_, fun ρ hρ => ⟨hρ k' p2', False.elim, fun st' hs' => t_pushL ρ k' p2' st' (by omega)⟩⟩
    · show 1 + e' ≤ _; omega
    · show 0 < 1; omega
  | none =>
    simp only
    cases hx' : (if t_is β n' (t_sk β n' e') 91 = true then inner else none) with
    | some S' =>
      have hS' : inner = some S' ∧ t_sk β n' e' < n' := by
        by_cases h91' : t_is β n' (t_sk β n' e') 91 = true
        · rw [if_pos h91'] at hx'
          refine ⟨hx', ?_⟩
          rw [← t_isE] at h91'
          exact h91'.1
        · rw [if_neg h91'] at hx'; cases hx'
      have hg' := hin' S' hS'.1 (t_sk β n' e' + 1) (by omega)
      simp only
      cases hr' : S' (t_sk β n' e' + 1) with
      | inl x' => rw [hr'] at hg'; exact ⟨by have := hg'.1; omega, hg'.2⟩
      | inr z' =>
        obtain ⟨x', c', v'⟩ := z'
        rw [hr'] at hg'
        obtain ⟨g1', g2', g3', g4', g5'⟩ := hg'
        have hL2' := t_skL β n' x'
        have hU2' := t_skU β n' x' g2'
        simp only
        by_cases h93' : t_is β n' (t_sk β n' x') 93 = true
        · rw [if_pos h93']
          rw [← t_isE] at h93'
          exact ⟨by omega, by omega, by omega, g4', g5'⟩
        · rw [if_neg h93']; exact ⟨by omega, hU2'⟩
    | none =>
      have h4' := t_nm4 (β := β) (n' := n') (t_sk β n' e') hU'
      simp only
      cases hr' : t_nm β n' 4 0 9999 (t_sk β n' e') with
      | inl x' => rw [hr'] at h4'; simp only at h4' ⊢; exact ⟨by omega, h4'.2⟩
      | inr z' =>
        obtain ⟨x', v'⟩ := z'
        rw [hr'] at h4'
        simp only at h4' ⊢
        refine ⟨by omega, by omega, ?_, ?_, fun ρ hρ => ⟨?_, False.elim, fun st' hs' => t_pushV ρ v' h4'.2.2 st' (by omega)⟩⟩
        · show 1 + e' ≤ _; omega
        · show 0 < 1; omega
        · rw [p_toI v' (by omega)]; omega
theorem t_GRlpA {A' : Nat → t_R} {ts' : Nat → Nat} {m' : Nat} {op0' : Int32} {a' e0' : Nat} (hA' : ∀ e', e' ≤ n' → t_GR n' a' e' 0 False (A' e')) (hop' : ∀ w', w' < m' → op0' - Int32.ofNat w' = -7 ∨ op0' - Int32.ofNat w' = -8 ∨ op0' - Int32.ofNat w' = -9 ∨ op0' - Int32.ofNat w' = -10) (f' e' : Nat) (c' : List Int32) (v' : t_V) (h' : t_GR n' (a' + 1) e0' 0 False (.inr (e', c', v'))) : t_GR n' (a' + 1) e0' 0 False (t_lpA β n' A' ts' m' op0' f' e' c' v') := by
  induction f' generalizing e' c' v' with
  | zero => exact ⟨by have := h'.1; omega, h'.2.1⟩
  | succ f' ih' =>
    obtain ⟨g1', g2', g3', g4', g5'⟩ := h'
    have hL' := t_skL β n' e'
    have hU' := t_skU β n' e' g2'
    rw [t_lpA]
    cases hpa' : t_pa β n' ts' m' (t_sk β n' e') with
    | none => exact ⟨by omega, hU', by omega, g4', g5'⟩
    | some w' =>
      obtain ⟨p1', p2', p3'⟩ := t_paB hpa'
      have hg' := hA' (t_sk β n' e' + 1) (by omega)
      simp only
      cases hr' : A' (t_sk β n' e' + 1) with
      | inl x' => rw [hr'] at hg'; exact ⟨by have := hg'.1; omega, hg'.2⟩
      | inr z' =>
        obtain ⟨x', c2', v2'⟩ := z'
        rw [hr'] at hg'
        obtain ⟨k1', k2', k3', k4', k5'⟩ := hg'
        refine ih' x' _ _ ⟨by omega, k2', ?_, ?_, fun ρ hρ => ⟨t_jnB _ _ _, False.elim, fun st' hs' => ?_⟩⟩
        · rw [List.length_append, List.length_append]; show c'.length + c2'.length + 1 + e0' ≤ x' + 0; omega
        · rw [List.length_append, List.length_append]; show 0 < c'.length + c2'.length + 1; omega
        · rw [t_runA, t_runA, (g5' ρ hρ).2.2 st' hs']
          show ((t_run ρ c2' (v' ρ :: st')).bind _) = _
          rw [(k5' ρ hρ).2.2 (v' ρ :: st') (by show st'.length + 1 + a' ≤ 32; omega)]
          show t_run ρ [op0' - Int32.ofNat w'] (v2' ρ :: v' ρ :: st') = _
          refine t_runJ ρ _ _ _ st' ?_
          rcases hop' w' p2' with q' | q' | q' | q'
          · exact .inl q'
          · exact .inr (.inl q')
          · exact .inr (.inr (.inl q'))
          · exact .inr (.inr (.inr (.inl q')))
theorem t_GRw {need need' e' e0' : Nat} {tr' : Prop} {r' : t_R} (h' : t_GR n' need e' e0' tr' r') (hn' : need ≤ need') : t_GR n' need' e' e0' tr' r' := by
  cases r' with
  | inl x' => exact h'
  | inr z' =>
    obtain ⟨x', c', v'⟩ := z'
    obtain ⟨g1', g2', g3', g4', g5'⟩ := h'
    exact ⟨g1', g2', g3', g4', fun ρ hρ => ⟨(g5' ρ hρ).1, (g5' ρ hρ).2.1, fun st' hs' => (g5' ρ hρ).2.2 st' (by omega)⟩⟩
theorem t_GRlpS {A' : Nat → t_R} {ts' : Nat → Nat} {m' : Nat} {op0' : Int32} {a' : Nat} (hA' : ∀ e', e' ≤ n' → t_GR n' a' e' 0 False (A' e')) (hop' : ∀ w', w' < m' → op0' - Int32.ofNat w' = -7 ∨ op0' - Int32.ofNat w' = -8 ∨ op0' - Int32.ofNat w' = -9 ∨ op0' - Int32.ofNat w' = -10) (e' : Nat) (he' : e' ≤ n') : t_GR n' (a' + 1) e' 0 False (t_lpS β n' A' ts' m' op0' e') := by
  have hg' := hA' e' he'
  unfold t_lpS
  cases hr' : A' e' with
  | inl x' => rw [hr'] at hg'; exact hg'
  | inr z' =>
    obtain ⟨x', c', v'⟩ := z'
    rw [hr'] at hg'
    exact t_GRlpA hA' hop' 240 x' c' v' (t_GRw hg' (by omega))
theorem t_GRsmm {inner : Option (Nat → t_R)} {a' : Nat} (h1' : 1 ≤ a') (hin' : ∀ S', inner = some S' → ∀ e', e' ≤ n' → t_GR n' a' e' 0 False (S' e')) (e' : Nat) (he' : e' ≤ n') : t_GR n' (a' + 1 + 1) e' 0 False (t_smm β n' inner e') := by
  refine t_GRlpS (fun e' he' => t_GRlpS (fun e' he' => t_GRatm h1' hin' e' he') ?_ e' he') ?_ e' he'
  · intro w' hw'
    have : w' = 0 ∨ w' = 1 := by omega
    rcases this with rfl | rfl
    · exact .inr (.inr (.inl (by decide)))
    · exact .inr (.inr (.inr (by decide)))
  · intro w' hw'
    have : w' = 0 ∨ w' = 1 := by omega
    rcases this with rfl | rfl
    · exact .inl (by decide)
    · exact .inr (.inl (by decide))
theorem t_GRsum (k' e' : Nat) (he' : e' ≤ n') : t_GR n' (2 * k' + 3) e' 0 False (t_sum β n' k' e') := by
  induction k' generalizing e' with
  | zero => exact t_GRsmm (a' := 1) (by omega) (fun S' h' => by cases h') e' he'
  | succ k' ih' =>
    have := t_GRsmm (β := β) (a' := 2 * k' + 3) (inner := some (t_sum β n' k')) (by omega) (fun S' h' e' he' => by cases h'; exact ih' e' he') e' he'
    rw [show 2 * (k' + 1) + 3 = 2 * k' + 3 + 1 + 1 by omega]
    exact this
/-- what has begun -/
def t_GB (n' need e' : Nat) (b' : t_Bg) : Prop := match b' with
  | none => True
  | some (c', v') => c'.length ≤ e' ∧ 0 < c'.length ∧ ∀ ρ, t_Lb ρ → (-1000000 ≤ (v' ρ).toInt ∧ (v' ρ).toInt ≤ 1000000) ∧ ∀ st' : List Int32, st'.length + need ≤ 32 → t_run ρ c' st' = some (v' ρ :: st')
def t_bl (b' : t_Bg) : Nat := match b' with
  | none => 0
  | some (c', _) => c'.length
theorem t_jnC (op' a' b' : Int32) (h' : op' = -11 ∨ op' = -12 ∨ op' = -13) : t_jn op' a' b' = 0 ∨ t_jn op' a' b' = 1 := by
  unfold t_jn
  rcases h' with rfl | rfl | rfl
  · by_cases hx' : a' = b'
    · right; simp [hx']
    · left; simp [hx']
  · by_cases hx' : a' < b'
    · right; simp [hx']
    · left; simp [hx']
  · by_cases hx' : b' < a'
    · right; simp [hx']
    · left; simp [hx']
theorem t_jnO (op' a' b' : Int32) (h' : op' = -14 ∨ op' = -15) (ha' : a' = 0 ∨ a' = 1) (hb' : b' = 0 ∨ b' = 1) : t_jn op' a' b' = 0 ∨ t_jn op' a' b' = 1 := by
  rcases h' with rfl | rfl <;> rcases ha' with rfl | rfl <;> rcases hb' with rfl | rfl <;> decide
theorem t_opC (w' : Nat) (hw' : w' < 3) : (-11 : Int32) - Int32.ofNat w' = -11 ∨ (-11 : Int32) - Int32.ofNat w' = -12 ∨ (-11 : Int32) - Int32.ofNat w' = -13 := by
  have : w' = 0 ∨ w' = 1 ∨ w' = 2 := by omega
  rcases this with rfl | rfl | rfl
  · exact .inl (by decide)
  · exact .inr (.inl (by decide))
  · exact .inr (.inr (by decide))
theorem t_runC (ρ : Nat → Int32) (c' c2' : List Int32) (a' b' op' : Int32) (st' : List Int32) (h1' : t_run ρ c' st' = some (a' :: st')) (h2' : t_run ρ c2' (a' :: st') = some (b' :: a' :: st')) (hop' : op' = -11 ∨ op' = -12 ∨ op' = -13) : t_run ρ (c' ++ c2' ++ [op']) st' = some (t_jn op' a' b' :: st') := by
  rw [t_runA, t_runA, h1']
  show ((t_run ρ c2' (a' :: st')).bind _) = _
  rw [h2']
  show t_run ρ [op'] (b' :: a' :: st') = _
  refine t_runJ ρ _ _ _ st' ?_
  rcases hop' with q' | q' | q'
  · exact .inr (.inr (.inr (.inr (.inl q'))))
  · exact .inr (.inr (.inr (.inr (.inr (.inl q')))))
  · exact .inr (.inr (.inr (.inr (.inr (.inr (.inl q'))))))
theorem t_GRcm1 (y' x' e0' a' bl' : Nat) (c' c2' : List Int32) (v' v2' : t_V) (op' : Int32) (hop' : op' = -11 ∨ op' = -12 ∨ op' = -13) (hx' : x' < y') (hex' : e0' ≤ x') (hy' : y' ≤ n') (hlen : c'.length + e0' ≤ x' + bl') (k3' : c2'.length + x' < y') (hv' : ∀ ρ, t_Lb ρ → ∀ st' : List Int32, st'.length + a' ≤ 32 → t_run ρ c' st' = some (v' ρ :: st')) (hv2' : ∀ ρ, t_Lb ρ → ∀ st' : List Int32, st'.length + a' ≤ 32 → t_run ρ c2' st' = some (v2' ρ :: st')) : t_GR n' (a' + 1) e0' bl' True (.inr (y', c' ++ c2' ++ [op'], fun ρ => t_jn op' (v' ρ) (v2' ρ))) := by
  refine ⟨by omega, hy', ?_, ?_, fun ρ hρ => ⟨t_jnB _ _ _, fun _ => t_jnC _ _ _ hop', fun st' hs' => t_runC ρ c' c2' (v' ρ) (v2' ρ) op' st' (hv' ρ hρ st' (by omega)) (hv2' ρ hρ (v' ρ :: st') (by show st'.length + 1 + a' ≤ 32; omega)) hop'⟩⟩
  · rw [List.length_append, List.length_append]; show c'.length + c2'.length + 1 + e0' ≤ y' + bl'; omega
  · rw [List.length_append, List.length_append]; show 0 < c'.length + c2'.length + 1; omega
theorem t_GRcmp {S' : Nat → t_R} {a' e0' : Nat} (hS' : ∀ e', e' ≤ n' → t_GR n' a' e' 0 False (S' e')) (x' : Nat) (hx' : x' ≤ n') (hex' : e0' ≤ x') (c' : List Int32) (v' : t_V) (bl' : Nat) (hlen : c'.length + e0' ≤ x' + bl') (hv' : ∀ ρ, t_Lb ρ → ∀ st' : List Int32, st'.length + a' ≤ 32 → t_run ρ c' st' = some (v' ρ :: st')) : t_GR n' (a' + 1) e0' bl' True (t_cmp β n' S' x' c' v') := by
  have hL' := t_skL β n' x'
  have hU' := t_skU β n' x' hx'
  unfold t_cmp
  cases hpa' : t_pa β n' t_s3 3 (t_sk β n' x') with
  | none => exact ⟨by omega, hU'⟩
  | some w' =>
    obtain ⟨p1', p2', p3'⟩ := t_paB hpa'
    have hg' := hS' (t_sk β n' x' + 1) (by omega)
    simp only
    cases hr' : S' (t_sk β n' x' + 1) with
    | inl y' => rw [hr'] at hg'; exact ⟨by have := hg'.1; omega, hg'.2⟩
    | inr z' =>
      obtain ⟨y', c2', v2'⟩ := z'
      rw [hr'] at hg'
      obtain ⟨k1', k2', k3', k4', k5'⟩ := hg'
      exact t_GRcm1 y' x' e0' a' bl' c' c2' v' v2' _ (t_opC w' p2') (by omega) hex' k2' hlen (by omega) hv' (fun ρ hρ => (k5' ρ hρ).2.2)
theorem t_GRutB {S' : Nat → t_R} {inner : Option ((Nat → t_R) × (Nat → t_R))} {a' : Nat} (hS' : ∀ e', e' ≤ n' → t_GR n' a' e' 0 False (S' e')) (hin' : ∀ U' C', inner = some (U', C') → ∀ e', e' ≤ n' → t_GR n' (a' + 1) e' 0 True (U' e') ∧ t_GR n' (a' + 1) e' 0 True (C' e')) (b' : t_Bg) (e' : Nat) (he' : e' ≤ n') (hb' : t_GB n' a' e' b') : t_GR n' (a' + 1) e' (t_bl b') True (t_utB β n' S' inner b' e') := by
  have hL' := t_skL β n' e'
  have hU' := t_skU β n' e' he'
  unfold t_utB
  cases b' with
  | some z' =>
    obtain ⟨c', v'⟩ := z'
    obtain ⟨b1', b2', b3'⟩ := hb'
    exact t_GRcmp hS' e' he' (Nat.le_refl _) c' v' c'.length (by omega) (fun ρ hρ => (b3' ρ hρ).2)
  | none =>
    show t_GR n' (a' + 1) e' 0 True _
    simp only
    cases hpa' : t_pa β n' t_s4 2 (t_sk β n' e') with
    | none =>
      have hg' := hS' (t_sk β n' e') hU'
      simp only
      cases hr' : S' (t_sk β n' e') with
      | inl x' => rw [hr'] at hg'; exact ⟨by have := hg'.1; omega, hg'.2⟩
      | inr z' =>
        obtain ⟨x', c', v'⟩ := z'
        rw [hr'] at hg'
        obtain ⟨k1', k2', k3', k4', k5'⟩ := hg'
        exact t_GRcmp hS' x' k2' (by omega) c' v' 0 (by omega) (fun ρ hρ => (k5' ρ hρ).2.2)
    | some w' =>
      obtain ⟨p1', p2', p3'⟩ := t_paB hpa'
      simp only
      cases hI' : inner with
      | none => exact ⟨hL', hU'⟩
      | some z' =>
        obtain ⟨U', C'⟩ := z'
        obtain ⟨hu', hc'⟩ := hin' U' C' hI' (t_sk β n' e' + 1) (by omega)
        simp only
        by_cases hw' : w' = 0
        · rw [if_pos hw']
          cases hr' : U' (t_sk β n' e' + 1) with
          | inl x' => rw [hr'] at hu'; exact ⟨by have := hu'.1; omega, hu'.2⟩
          | inr z' =>
            obtain ⟨x', c', v'⟩ := z'
            rw [hr'] at hu'
            obtain ⟨k1', k2', k3', k4', k5'⟩ := hu'
            refine ⟨by omega, k2', ?_, ?_, fun ρ hρ => ?_⟩
            · rw [List.length_append]; show c'.length + 1 + e' ≤ x' + 0; omega
            · rw [List.length_append]; show 0 < c'.length + 1; omega
            · obtain ⟨m1', m2', m3'⟩ := k5' ρ hρ
              refine ⟨?_, fun _ => ?_, fun st' hs' => ?_⟩
              · show -1000000 ≤ (1 - v' ρ).toInt ∧ (1 - v' ρ).toInt ≤ 1000000
                rcases m2' trivial with q' | q' <;> rw [q'] <;> decide
              · show 1 - v' ρ = 0 ∨ 1 - v' ρ = 1
                rcases m2' trivial with q' | q'
                · right; rw [q']; decide
                · left; rw [q']; decide
              · rw [t_runA, m3' st' hs']
                rfl
        · rw [if_neg hw']
          cases hr' : C' (t_sk β n' e' + 1) with
          | inl x' => rw [hr'] at hc'; exact ⟨by have := hc'.1; omega, hc'.2⟩
          | inr z' =>
            obtain ⟨x', c', v'⟩ := z'
            rw [hr'] at hc'
            obtain ⟨k1', k2', k3', k4', k5'⟩ := hc'
            have hL2' := t_skL β n' x'
            have hU2' := t_skU β n' x' k2'
            simp only
            by_cases h41' : t_is β n' (t_sk β n' x') 41 = true
            · rw [if_pos h41']
              rw [← t_isE] at h41'
              exact ⟨by omega, by omega, by omega, k4', k5'⟩
            · rw [if_neg h41']; exact ⟨by omega, hU2'⟩
theorem t_GRlpU {U' : t_Bg → Nat → t_R} {sg' : Nat} {op' : Int32} {a' e0' bl' : Nat} (hU' : ∀ e', e' ≤ n' → t_GR n' a' e' 0 True (U' none e')) (hop' : op' = -14 ∨ op' = -15) (f' e' : Nat) (c' : List Int32) (v' : t_V) (h' : t_GR n' (a' + 1) e0' bl' True (.inr (e', c', v'))) : t_GR n' (a' + 1) e0' bl' True (t_lpU β n' U' sg' op' f' e' c' v') := by
  induction f' generalizing e' c' v' with
  | zero => exact h'
  | succ f' ih' =>
    obtain ⟨g1', g2', g3', g4', g5'⟩ := h'
    have hL' := t_skL β n' e'
    have hUU' := t_skU β n' e' g2'
    rw [t_lpU]
    by_cases hs' : t_is β n' (t_sk β n' e') sg' = true
    · rw [if_pos hs']
      have hs'' := hs'
      rw [← t_isE] at hs''
      have hg' := hU' (t_sk β n' e' + 1) (by omega)
      cases hr' : U' none (t_sk β n' e' + 1) with
      | inl x' => rw [hr'] at hg'; exact ⟨by have := hg'.1; omega, hg'.2⟩
      | inr z' =>
        obtain ⟨x', c2', v2'⟩ := z'
        rw [hr'] at hg'
        obtain ⟨k1', k2', k3', k4', k5'⟩ := hg'
        refine ih' x' _ _ ⟨by omega, k2', ?_, ?_, fun ρ hρ => ⟨t_jnB _ _ _, fun _ => t_jnO _ _ _ hop' ((g5' ρ hρ).2.1 trivial) ((k5' ρ hρ).2.1 trivial), fun st' hst' => ?_⟩⟩
        · rw [List.length_append, List.length_append]; show c'.length + c2'.length + 1 + e0' ≤ x' + bl'; omega
        · rw [List.length_append, List.length_append]; show 0 < c'.length + c2'.length + 1; omega
        · rw [t_runA, t_runA, (g5' ρ hρ).2.2 st' hst']
          show ((t_run ρ c2' (v' ρ :: st')).bind _) = _
          rw [(k5' ρ hρ).2.2 (v' ρ :: st') (by show st'.length + 1 + a' ≤ 32; omega)]
          show t_run ρ [op'] (v2' ρ :: v' ρ :: st') = _
          refine t_runJ ρ _ _ _ st' ?_
          rcases hop' with q' | q'
          · exact .inr (.inr (.inr (.inr (.inr (.inr (.inr (.inl q')))))))
          · exact .inr (.inr (.inr (.inr (.inr (.inr (.inr (.inr q')))))))
    · rw [if_neg hs']; exact ⟨by omega, hUU', by omega, g4', g5'⟩
theorem t_GRlpB {U' : t_Bg → Nat → t_R} {sg' : Nat} {op' : Int32} {a' nb' : Nat} (hU' : ∀ b' e', e' ≤ n' → t_GB n' nb' e' b' → t_GR n' a' e' (t_bl b') True (U' b' e')) (hop' : op' = -14 ∨ op' = -15) (b' : t_Bg) (e' : Nat) (he' : e' ≤ n') (hb' : t_GB n' nb' e' b') : t_GR n' (a' + 1) e' (t_bl b') True (t_lpB β n' U' sg' op' b' e') := by
  have hg' := hU' b' e' he' hb'
  unfold t_lpB
  cases hr' : U' b' e' with
  | inl x' => rw [hr'] at hg'; exact hg'
  | inr z' =>
    obtain ⟨x', c', v'⟩ := z'
    rw [hr'] at hg'
    exact t_GRlpU (fun e' he' => hU' none e' he' trivial) hop' 240 x' c' v' (t_GRw hg' (by omega))
theorem t_GRcndO {U' : t_Bg → Nat → t_R} {a' nb' : Nat} (hU' : ∀ b' e', e' ≤ n' → t_GB n' nb' e' b' → t_GR n' a' e' (t_bl b') True (U' b' e')) (b' : t_Bg) (e' : Nat) (he' : e' ≤ n') (hb' : t_GB n' nb' e' b') : t_GR n' (a' + 1 + 1) e' (t_bl b') True (t_cndO β n' U' b' e') :=
  t_GRlpB (fun b' e' he' hb' => t_GRlpB hU' (.inl rfl) b' e' he' hb') (.inr rfl) b' e' he' hb'
theorem t_GBw {need need' e' : Nat} {b' : t_Bg} (h' : t_GB n' need e' b') (hn' : need ≤ need') : t_GB n' need' e' b' := by
  cases b' with
  | none => trivial
  | some z' =>
    obtain ⟨c', v'⟩ := z'
    exact ⟨h'.1, h'.2.1, fun ρ hρ => ⟨(h'.2.2 ρ hρ).1, fun st' hs' => (h'.2.2 ρ hρ).2 st' (by omega)⟩⟩
theorem t_GRunt (k' : Nat) (b' : t_Bg) (e' : Nat) (he' : e' ≤ n') (hb' : t_GB n' (2 * k' + 3) e' b') : t_GR n' (2 * k' + 4) e' (t_bl b') True (t_unt β n' k' b' e') := by
  induction k' generalizing b' e' with
  | zero => exact t_GRutB (a' := 3) (fun e' he' => t_GRsum 0 e' he') (fun U' C' h' => by cases h') b' e' he' hb'
  | succ k' ih' =>
    refine t_GRutB (a' := 2 * (k' + 1) + 3) (fun e' he' => t_GRsum (k' + 1) e' he') (fun U' C' h' e' he' => ?_) b' e' he' hb'
    cases h'
    exact ⟨t_GRw (ih' none e' he' trivial) (by omega), t_GRw (t_GRcndO (nb' := 2 * k' + 3) (fun b' e' he' hb' => ih' b' e' he' hb') none e' he' trivial) (by omega)⟩
theorem t_GRcnd (k' : Nat) (b' : t_Bg) (e' : Nat) (he' : e' ≤ n') (hb' : t_GB n' (2 * k' + 3) e' b') : t_GR n' (2 * k' + 6) e' (t_bl b') True (t_cndO β n' (t_unt β n' k') b' e') := t_GRcndO (nb' := 2 * k' + 3) (fun b' e' he' hb' => t_GRunt k' b' e' he' hb') b' e' he' hb'
end PL'
