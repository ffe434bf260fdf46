/-! A DAY, class's side -/
abbrev t_SK (k' : Nat) : Prop := k' = 53 ∨ k' = 55 ∨ k' = 61 ∨ k' = 68 ∨ k' = 73 ∨ k' = 75 ∨ k' = 77 ∨ k' = 79 ∨ k' = 81
theorem p_cs (k' : Nat) (hk' : t_SK k') {X' : p_X} (hB' : p_B X') : X'.2.2[k']? = some (.inl 8) ∧ X'.2.2[k' + 1]? = some (.inr (0, 31)) ∧ X'.2.1 k' 0 = k' + 1 + 1 ∧ q_NS ≤ k' ∧ q_NS ≤ k' + 1 := by
  rcases hk' with rfl | rfl | rfl | rfl | rfl | rfl | rfl | rfl | rfl
  · exact ⟨sh_53 hB', sh_54 hB', rf_53 hB', by decide, by decide⟩
  · exact ⟨sh_55 hB', sh_56 hB', rf_55 hB', by decide, by decide⟩
  · exact ⟨sh_61 hB', sh_62 hB', rf_61 hB', by decide, by decide⟩
  · exact ⟨sh_68 hB', sh_69 hB', rf_68 hB', by decide, by decide⟩
  · exact ⟨sh_73 hB', sh_74 hB', rf_73 hB', by decide, by decide⟩
  · exact ⟨sh_75 hB', sh_76 hB', rf_75 hB', by decide, by decide⟩
  · exact ⟨sh_77 hB', sh_78 hB', rf_77 hB', by decide, by decide⟩
  · exact ⟨sh_79 hB', sh_80 hB', rf_79 hB', by decide, by decide⟩
  · exact ⟨sh_81 hB', sh_82 hB', rf_81 hB', by decide, by decide⟩
/-- the rows of a State's two cells -/
theorem p_st {β : Type} {k' : Nat} (hk' : t_SK k') {X' : p_X} (hB' : p_B X') :
    (∀ (I' : p_I) (f' : Nat → Option β), q_gR (I', X') k' 8 0 f' = f' (k' + 1 + 1)) ∧ (∀ (I' : p_I) (o' : Option β), q_ob (I', X') k' 8 o' = o') ∧ (∀ (f' : Nat → Option β), q_nn (k' + 1 + 1) f' = f' (k' + 1)) ∧
    (∀ (I' : p_I) (i' : Nat) (f' : Int32 → Option β), i' < 31 → q_lI (I', X') 0 (k' + 1) (Int32.ofNat i') f' = f' (I' (k' + 1) i')) ∧
    (∀ (I' : p_I) (i' : Nat) (v' : Int32) (f' : q_Mem → Option β), i' < 31 → q_tI (I', X') (k' + 1) (Int32.ofNat i') v' f' = f' (q_u2 I' (k' + 1) i' v', X')) ∧
    (∀ (I' : p_I) (f' : Int32 → Option β), q_lI (I', X') 0 (k' + 1) 0 f' = f' (I' (k' + 1) 0)) ∧ (∀ (I' : p_I) (f' : Int32 → Option β), q_lI (I', X') 0 (k' + 1) 1 f' = f' (I' (k' + 1) 1)) ∧ (∀ (I' : p_I) (f' : Int32 → Option β), q_lI (I', X') 0 (k' + 1) 2 f' = f' (I' (k' + 1) 2)) ∧ (∀ (I' : p_I) (f' : Int32 → Option β), q_lI (I', X') 0 (k' + 1) 3 f' = f' (I' (k' + 1) 3)) ∧ (∀ (I' : p_I) (f' : Int32 → Option β), q_lI (I', X') 0 (k' + 1) 4 f' = f' (I' (k' + 1) 4)) ∧
    (∀ (I' : p_I) (v' : Int32) (f' : q_Mem → Option β), q_tI (I', X') (k' + 1) 0 v' f' = f' (q_u2 I' (k' + 1) 0 v', X')) ∧ (∀ (I' : p_I) (v' : Int32) (f' : q_Mem → Option β), q_tI (I', X') (k' + 1) 1 v' f' = f' (q_u2 I' (k' + 1) 1 v', X')) ∧ (∀ (I' : p_I) (v' : Int32) (f' : q_Mem → Option β), q_tI (I', X') (k' + 1) 2 v' f' = f' (q_u2 I' (k' + 1) 2 v', X')) ∧ (∀ (I' : p_I) (v' : Int32) (f' : q_Mem → Option β), q_tI (I', X') (k' + 1) 3 v' f' = f' (q_u2 I' (k' + 1) 3 v', X')) ∧ (∀ (I' : p_I) (v' : Int32) (f' : q_Mem → Option β), q_tI (I', X') (k' + 1) 4 v' f' = f' (q_u2 I' (k' + 1) 4 v', X')) := by
  obtain ⟨h1', h2', h3', h4', h5'⟩ := p_cs k' hk' hB'
  refine ⟨fun I' f' => by rw [p_gR h1', h3'], p_ob h1', fun f' => rfl, p_lI h2' (by decide), p_tI h2' (by decide) h5', fun I' f' => p_lI h2' (by decide) I' 0 f' (by decide), fun I' f' => p_lI h2' (by decide) I' 1 f' (by decide), fun I' f' => p_lI h2' (by decide) I' 2 f' (by decide), fun I' f' => p_lI h2' (by decide) I' 3 f' (by decide), fun I' f' => p_lI h2' (by decide) I' 4 f' (by decide), fun I' v' f' => p_tI h2' (by decide) h5' I' 0 v' f' (by decide), fun I' v' f' => p_tI h2' (by decide) h5' I' 1 v' f' (by decide), fun I' v' f' => p_tI h2' (by decide) h5' I' 2 v' f' (by decide), fun I' v' f' => p_tI h2' (by decide) h5' I' 3 v' f' (by decide), fun I' v' f' => p_tI h2' (by decide) h5' I' 4 v' f' (by decide)⟩
/-! bits -/
def t_b (c' : Bool) : Int32 := match c' with
  | true => 1
  | false => 0
theorem t_b0 (c' : Bool) : (t_b c' = 0) = (c' = false) := by cases c' <;> simp [t_b]
theorem t_bq (c' : Bool) : q_rq (t_b c') = some (t_b c') := by cases c' <;> rfl
theorem t_bz (c' : Bool) (M' : q_Mem) : q_rz (t_b c') M' = some (t_b c', M') := by cases c' <;> rfl
def t_bit (x' : Int32) (g' : Nat) : Bool := !decide (((x' >>> (Int32.ofNat g' &&& 31)) &&& 1) = 0)
theorem t_bitE (x' : Int32) (g' : Nat) : (((x' >>> (Int32.ofNat g' &&& 31)) &&& 1) = 0) = (t_bit x' g' = false) := by simp [t_bit]
def t_bs (p' : Nat → Bool) : Nat → Int32
  | 0 => 0
  | n' + 1 => if p' n' = true then t_bs p' n' ||| ((1 : Int32) <<< (Int32.ofNat n' &&& 31)) else t_bs p' n'
/-- a set of six as bits -/
def t_B (p' : Nat → Bool) : Int32 := t_bs p' 6
def t_b6 (a' b' c' d' e' f' : Bool) (g' : Nat) : Bool := match g' with
  | 0 => a' | 1 => b' | 2 => c' | 3 => d' | 4 => e' | 5 => f' | _ => false
theorem t_bsC (p' q' : Nat → Bool) (n' : Nat) (h' : ∀ g', g' < n' → p' g' = q' g') : t_bs p' n' = t_bs q' n' := by
  induction n' with
  | zero => rfl
  | succ n' ih' => rw [t_bs, t_bs, ih' (fun g' hg' => h' g' (by omega)), h' n' (by omega)]
theorem t_BC {p' q' : Nat → Bool} (h' : ∀ g', g' < 6 → p' g' = q' g') : t_B p' = t_B q' := t_bsC p' q' 6 h'
theorem t_B6 (p' : Nat → Bool) : t_B p' = t_B (t_b6 (p' 0) (p' 1) (p' 2) (p' 3) (p' 4) (p' 5)) := t_BC (fun g' hg' => by
  match g', hg' with
  | 0, _ => rfl | 1, _ => rfl | 2, _ => rfl | 3, _ => rfl | 4, _ => rfl | 5, _ => rfl)
theorem t_BA (p' : Nat → Bool) (g' : Nat) (hg' : g' < 6) : t_bit (t_B p') g' = p' g' := by
  have h' : ∀ (a' b' c' d' e' f' : Bool) (g' : Fin 6), t_bit (t_B (t_b6 a' b' c' d' e' f')) g' = t_b6 a' b' c' d' e' f' g' := by decide +kernel
  rw [t_B6, h' _ _ _ _ _ _ ⟨g', hg'⟩]
  match g', hg' with
  | 0, _ => rfl | 1, _ => rfl | 2, _ => rfl | 3, _ => rfl | 4, _ => rfl | 5, _ => rfl
theorem t_BO (p' : Nat → Bool) (g' : Nat) (hg' : g' < 6) : t_B p' ||| ((1 : Int32) <<< (Int32.ofNat g' &&& 31)) = t_B (fun x' => p' x' || x' == g') := by
  have h' : ∀ (a' b' c' d' e' f' : Bool) (g' : Fin 6), t_B (t_b6 a' b' c' d' e' f') ||| ((1 : Int32) <<< (Int32.ofNat g' &&& 31)) = t_B (fun x' => t_b6 a' b' c' d' e' f' x' || x' == g') := by decide +kernel
  rw [t_B6, h' _ _ _ _ _ _ ⟨g', hg'⟩]
  refine t_BC (fun x' hx' => ?_)
  match x', hx' with
  | 0, _ => rfl | 1, _ => rfl | 2, _ => rfl | 3, _ => rfl | 4, _ => rfl | 5, _ => rfl
theorem t_BZ {p' : Nat → Bool} (h' : ∀ g', g' < 6 → p' g' = false) : t_B p' = 0 := (t_BC (q' := fun _ => false) h').trans (by decide +kernel)
noncomputable def t_bc (x' : Int32) : Int32 := (F_J6_bitCount_0f7a4 x' ((fun _ _ => 0), (fun _ _ => 0), (fun _ _ => 0), [])).getD 0
theorem t_bcE (x' : Int32) (M' : q_Mem) : F_J6_bitCount_0f7a4 x' M' = some (t_bc x') := rfl
def t_cn (p' : Nat → Bool) : Nat → Nat
  | 0 => 0
  | n' + 1 => t_cn p' n' + (if p' n' = true then 1 else 0)
theorem t_cnC (p' q' : Nat → Bool) (n' : Nat) (h' : ∀ g', g' < n' → p' g' = q' g') : t_cn p' n' = t_cn q' n' := by
  induction n' with
  | zero => rfl
  | succ n' ih' => rw [t_cn, t_cn, ih' (fun g' hg' => h' g' (by omega)), h' n' (by omega)]
theorem t_cnL (p' : Nat → Bool) (n' : Nat) : t_cn p' n' ≤ n' := by
  induction n' with
  | zero => exact Nat.le_refl 0
  | succ n' ih' => rw [t_cn]; split <;> omega
theorem t_bcB (p' : Nat → Bool) : t_bc (t_B p') = Int32.ofNat (t_cn p' 6) := by
  have h' : ∀ (a' b' c' d' e' f' : Bool), t_bc (t_B (t_b6 a' b' c' d' e' f')) = Int32.ofNat (t_cn (t_b6 a' b' c' d' e' f') 6) := by decide +kernel
  rw [t_B6, h']
  refine congrArg Int32.ofNat (t_cnC _ _ 6 (fun x' hx' => ?_))
  match x', hx' with
  | 0, _ => rfl | 1, _ => rfl | 2, _ => rfl | 3, _ => rfl | 4, _ => rfl | 5, _ => rfl
theorem p_a3 (x' : Int32) : ∃ n', n' < 4 ∧ x' &&& 3 = Int32.ofNat n' ∧ (x' &&& 3).toNatClampNeg = n' := by
  have h' : x' &&& 3 = Int32.ofNat ((x' &&& 3).toNatClampNeg) ∧ (x' &&& 3).toNatClampNeg < 4 := by
    have hb' : (x' &&& 3).toBitVec = x'.toBitVec &&& 3#32 := rfl
    have h1' : (x' &&& 3).toBitVec.toNat < 4 := by
      rw [hb', BitVec.toNat_and]
      exact Nat.lt_of_le_of_lt Nat.and_le_right (by decide)
    have h2' : (x' &&& 3).toInt = ((x' &&& 3).toBitVec.toNat : Int) := by
      show (x' &&& 3).toBitVec.toInt = _
      rw [BitVec.toInt_eq_toNat_of_lt (by omega)]
    have h3' : (x' &&& 3).toNatClampNeg = (x' &&& 3).toBitVec.toNat := by
      rw [Int32.toNatClampNeg, h2']
      rfl
    refine ⟨?_, by omega⟩
    apply Int32.toInt_inj.mp
    rw [h2', h3', Int32.toInt_ofNat_of_lt (by omega)]
  exact ⟨_, h'.2, h'.1, rfl⟩
/-! the house: rules, dishes, guests, the order of coming, how many dishes, how many guests -/
abbrev t_H : Type := (Nat → Int32) × (Nat → Int32) × (Nat → Int32) × (Nat → Nat) × Nat × Nat
def t_hr (H' : t_H) : Nat → Int32 := H'.1
def t_hd (H' : t_H) : Nat → Int32 := H'.2.1
def t_hg (H' : t_H) : Nat → Int32 := H'.2.2.1
def t_ho (H' : t_H) : Nat → Nat := H'.2.2.2.1
def t_nd (H' : t_H) : Nat := H'.2.2.2.2.1
def t_ng (H' : t_H) : Nat := H'.2.2.2.2.2
/-- the class's house holds H -/
def t_HI (H' : t_H) (I' : p_I) : Prop := I' 40 = t_hr H' ∧ I' 41 = t_hd H' ∧ I' 42 = t_hg H' ∧ (∀ i', i' < t_ng H' → I' 43 i' = Int32.ofNat (t_ho H' i') ∧ t_ho H' i' < t_ng H') ∧ I' 39 4 = Int32.ofNat (t_nd H') ∧ I' 39 5 = Int32.ofNat (t_ng H') ∧ t_nd H' ≤ 5 ∧ t_ng H' ≤ 6
theorem t_HIk {H' : t_H} {I' J' : p_I} (hH' : t_HI H' I') (h' : ∀ c', 39 ≤ c' → c' ≤ 43 → J' c' = I' c') : t_HI H' J' := by
  obtain ⟨a1', a2', a3', a4', a5', a6', a7', a8'⟩ := hH'
  exact ⟨by rw [h' 40 (by decide) (by decide)]; exact a1', by rw [h' 41 (by decide) (by decide)]; exact a2', by rw [h' 42 (by decide) (by decide)]; exact a3', by rw [h' 43 (by decide) (by decide)]; exact a4', by rw [h' 39 (by decide) (by decide)]; exact a5', by rw [h' 39 (by decide) (by decide)]; exact a6', a7', a8'⟩
/-- a guest's joy -/
def t_jw (H' : t_H) (g' : Nat) (v' : Int32) : Prop := (t_ng H' ≤ g' → v' = 0) ∧ -99 ≤ v'.toInt ∧ v'.toInt ≤ 999
/-- a State's row: what its numbers are -/
def t_WF (H' : t_H) (s' : Nat → Int32) : Prop := (∃ D', s' 0 = Int32.ofNat D' ∧ D' ≤ 2000) ∧ (∃ h', s' 1 = Int32.ofNat h' ∧ h' ≤ 3) ∧ (s' 3 = -1 ∨ ∃ d', s' 3 = Int32.ofNat d' ∧ d' < t_nd H') ∧
  (∀ j', j' < 4 → ∃ d', s' (5 + j') = Int32.ofNat d' ∧ d' < t_nd H') ∧ (∀ j', j' < 4 → ∃ n', s' (9 + j') = Int32.ofNat n' ∧ n' ≤ 6) ∧ (∀ g', g' < 6 → ∃ n', s' (13 + g') = Int32.ofNat n' ∧ n' ≤ 120) ∧ (∃ p' : Nat → Bool, s' 4 = t_B p' ∧ ∀ g', t_ng H' ≤ g' → p' g' = false) ∧ (∀ g', g' < 7 → g' < 6 → t_jw H' g' (s' (25 + g')))
def t_th (H' : t_H) (s' : Nat → Int32) (g' : Nat) : Bool := !decide (s' 0 - t_hg H' (g' * 4) < 0) && decide (s' 0 - t_hg H' (g' * 4) < s' (13 + g')) && !t_bit (s' 4) g'
/-- who is there -/
def t_tp (H' : t_H) (s' : Nat → Int32) (g' : Nat) : Bool := decide (g' < t_ng H') && t_th H' s' g'
def t_ck (H' : t_H) (s' : Nat → Int32) : Int32 := if s' 3 = -1 then s' 0 - s' 0 / Int32.ofNat (t_nd H') * Int32.ofNat (t_nd H') else s' 3
noncomputable def t_pn (H' : t_H) (s' : Nat → Int32) : Int32 := t_bc (t_B (t_tp H' s'))
def t_x4 (s' : Nat → Int32) : Nat := ((s' 0 - s' 1) &&& 3).toNatClampNeg
def t_ds (H' : t_H) (s' : Nat → Int32) : Int32 := if s' 1 = 0 then t_ck H' s' else if s' 0 - s' 1 < 0 then -1 else s' (5 + t_x4 s')
noncomputable def t_sv (H' : t_H) (s' : Nat → Int32) : Int32 := if s' 1 = 0 then t_pn H' s' else if s' 0 - s' 1 < 0 then 0 else s' (9 + t_x4 s')
noncomputable def t_wm (H' : t_H) (s' : Nat → Int32) : Int32 := if t_ds H' s' = -1 then 0 else q_mx 0 (t_hd H' ((t_ds H' s').toNatClampNeg * 3) - t_hr H' 1 * s' 1)
/-- the first round of feeding, by the order of coming: what is left, who is fed -/
noncomputable def t_q (H' : t_H) (s' : Nat → Int32) : Nat → Nat × (Nat → Bool)
  | 0 => ((t_sv H' s').toNatClampNeg, fun _ => false)
  | i' + 1 => if 0 < (t_q H' s' i').1 ∧ t_tp H' s' (t_ho H' i') = true then ((t_q H' s' i').1 - 1, fun x' => (t_q H' s' i').2 x' || x' == t_ho H' i') else t_q H' s' i'
def t_ld (H' : t_H) (s' : Nat → Int32) (g' : Nat) : Bool := t_tp H' s' g' && decide (s' 0 = t_hg H' (g' * 4) + s' (13 + g') - 1)
/-- the second -/
noncomputable def t_r (H' : t_H) (s' : Nat → Int32) : Nat → Nat × (Nat → Bool)
  | 0 => ((t_q H' s' (t_ng H')).1, fun _ => false)
  | g' + 1 => if 0 < (t_r H' s' g').1 ∧ t_ld H' s' g' = true then ((t_r H' s' g').1 - 1, fun x' => (t_r H' s' g').2 x' || x' == g') else t_r H' s' g'
noncomputable def t_fd (H' : t_H) (s' : Nat → Int32) : Nat → Bool := (t_q H' s' (t_ng H')).2
noncomputable def t_pl (H' : t_H) (s' : Nat → Int32) (g' : Nat) : Int32 := t_b (t_fd H' s' g') + t_b ((t_r H' s' (t_ng H')).2 g')
section PD'
variable {X' : p_X} {I' : p_I} {H' : t_H} {k' : Nat}
theorem s_ofGuest (hB' : p_B X') (hH' : t_HI H' I') (g' w' : Nat) (hg' : g' < 6) (hw' : w' < 4) : F_X3_ofGuest 39 (Int32.ofNat g') (Int32.ofNat w') (I', X') = some (t_hg H' (g' * 4 + w')) := by
  unfold F_X3_ofGuest
  simp (disch := omega) only [↓ce_39 hB', rf_39 hB', ↓ce_42 hB', ↓nn_41, ↓nn_42, ↓nn_43, ↓nn_44, p_bs, p_rq0, p_rq1, p_rz0, p_rz1, p_us, p_un, p_uj, ↓reduceIte, p_ar, p_cm]
  rw [if_neg (by omega), if_pos (by omega)]
  simp (disch := omega) only [↓ce_39 hB', rf_39 hB', ↓ce_42 hB', ↓nn_41, ↓nn_42, ↓nn_43, ↓nn_44, p_bs, p_rq0, p_rq1, p_rz0, p_rz1, p_us, p_un, p_uj, ↓reduceIte, hH'.2.2.1]
theorem s_ofDish (hB' : p_B X') (hH' : t_HI H' I') (d' w' : Nat) (hd' : d' < 5) (hw' : w' < 3) : F_X3_ofDish 39 (Int32.ofNat d') (Int32.ofNat w') (I', X') = some (t_hd H' (d' * 3 + w')) := by
  unfold F_X3_ofDish
  simp (disch := omega) only [↓ce_39 hB', rf_39 hB', ↓ce_41 hB', ↓nn_41, ↓nn_42, ↓nn_43, ↓nn_44, p_bs, p_rq0, p_rq1, p_rz0, p_rz1, p_us, p_un, p_uj, ↓reduceIte, p_ar, p_cm]
  rw [if_neg (by omega), if_pos (by omega)]
  simp (disch := omega) only [↓ce_39 hB', rf_39 hB', ↓ce_41 hB', ↓nn_41, ↓nn_42, ↓nn_43, ↓nn_44, p_bs, p_rq0, p_rq1, p_rz0, p_rz1, p_us, p_un, p_uj, ↓reduceIte, hH'.2.1]
theorem s_hasLeft (hB' : p_B X') (hk' : t_SK k') (g' : Nat) : F_X8_hasLeft k' (Int32.ofNat g') (I', X') = some (t_b (t_bit (I' (k' + 1) 4) g')) := by
  unfold F_X8_hasLeft
  simp (disch := omega) only [p_bs, p_rq0, p_rq1, p_rz0, p_rz1, p_us, p_un, p_uj, ↓reduceIte, p_st hk' hB', t_bitE]
  cases t_bit (I' (k' + 1) 4) g' <;> rfl
theorem s_isThere (hB' : p_B X') (hH' : t_HI H' I') (hk' : t_SK k') (g' : Nat) (hg' : g' < 6) : F_X1_isThere 63 k' (Int32.ofNat g') (I', X') = some (t_b (t_th H' (I' (k' + 1)) g')) := by
  have h1' := s_ofGuest hB' hH' g' 0 hg' (by omega)
  unfold F_X1_isThere
  simp (disch := omega) only [↓ce_63 hB', rf_63 hB', ↓ce_39 hB', rf_39 hB', ↓nn_40, ↓nn_41, ↓nn_42, ↓nn_43, ↓nn_44, ↓nn_65, ↓nn_66, p_bs, p_rq0, p_rq1, p_rz0, p_rz1, p_us, p_un, p_uj, ↓reduceIte, p_st hk' hB', p_ar, s_hasLeft hB' hk' g', show F_X3_ofGuest 39 (Int32.ofNat g') 0 (I', X') = some (t_hg H' (g' * 4 + 0)) from h1']
  unfold t_th
  by_cases h2' : I' (k' + 1) 0 - t_hg H' (g' * 4) < 0 <;> by_cases h3' : I' (k' + 1) 0 - t_hg H' (g' * 4) < I' (k' + 1) (13 + g') <;> cases h4' : t_bit (I' (k' + 1) 4) g' <;> simp [h2', h3', p_rq0, p_rq1, t_b]
theorem s_layLoop (hB' : p_B X') (hH' : t_HI H' I') (hk' : t_SK k') (h0' : I' 63 4 = 0) :
    ∃ I'', q_lp (fun s' => B_X1_lay_7 63 k' s'.1 s'.2) q_fu (0, (I', X')) = some (I'', X') ∧ (∀ c', c' ≠ 63 → I'' c' = I' c') ∧ (∀ j', j' ≠ 4 → I'' 63 j' = I' 63 j') ∧ I'' 63 4 = t_B (t_tp H' (I' (k' + 1))) := by
  have hng' : t_ng H' ≤ 6 := hH'.2.2.2.2.2.2.2
  obtain ⟨e', h1', I'', rfl, h2'⟩ := p_lp (fun s' => B_X1_lay_7 63 k' s'.1 s'.2) (fun i' s' => ∃ I'', s' = (Int32.ofNat i', (I'', X')) ∧ (∀ c', c' ≠ 63 → I'' c' = I' c') ∧ (∀ j', j' ≠ 4 → I'' 63 j' = I' 63 j') ∧ I'' 63 4 = t_B (fun g' => decide (g' < i') && t_th H' (I' (k' + 1)) g'))
    (fun e' => ∃ I'', e' = (I'', X') ∧ (∀ c', c' ≠ 63 → I'' c' = I' c') ∧ (∀ j', j' ≠ 4 → I'' 63 j' = I' 63 j') ∧ I'' 63 4 = t_B (t_tp H' (I' (k' + 1)))) (t_ng H') (by
      rintro i' s' hi' ⟨J', rfl, j1', j2', j3'⟩
      have hH'' : t_HI H' J' := t_HIk hH' (fun c' h1' h2' => j1' c' (by omega))
      have hn' : J' 39 5 = Int32.ofNat (t_ng H') := hH''.2.2.2.2.2.1
      have hs' : J' (k' + 1) = I' (k' + 1) := j1' _ (by omega)
      by_cases hlt' : i' < t_ng H'
      · left
        have hT' := s_isThere hB' hH'' hk' i' (by omega)
        rw [hs'] at hT'
        unfold B_X1_lay_7
        simp (disch := omega) only [↓ce_63 hB', rf_63 hB', ↓ce_39 hB', rf_39 hB', ↓nn_40, ↓nn_41, ↓nn_42, ↓nn_43, ↓nn_44, ↓nn_65, ↓nn_66, p_bs, p_rq0, p_rq1, p_rz0, p_rz1, p_us, p_un, p_uj, ↓reduceIte, hn', p_lt, hT', hlt', t_b0, J_X1_lay_39_7, p_ar]
        cases ht' : t_th H' (I' (k' + 1)) i'
        · refine ⟨_, by simp only [↓reduceIte], True.intro, J', rfl, j1', j2', ?_⟩
          rw [j3']
          refine t_BC (fun g' _ => ?_)
          by_cases e' : g' = i'
          · subst e'; simp [ht']
          · have : (g' < i' + 1) = (g' < i') := by rw [eq_iff_iff]; omega
            simp [this]
        · refine ⟨_, by simp only [Bool.true_eq_false, ↓reduceIte]; rfl, True.intro, _, rfl, ?_, ?_, ?_⟩
          · intro c' hc'; rw [p_uc _ _ _ _ _ hc']; exact j1' c' hc'
          · intro j' hj'; rw [p_uj _ _ _ _ _ hj']; exact j2' j' hj'
          · rw [p_us, j3', t_BO _ _ (by omega)]
            refine t_BC (fun g' _ => ?_)
            by_cases e' : g' = i'
            · subst e'; simp [ht']
            · have : (g' < i' + 1) = (g' < i') := by rw [eq_iff_iff]; omega
              simp [this, e']
      · right
        have hi'' : i' = t_ng H' := by omega
        subst hi''
        refine ⟨_, ?_, J', rfl, j1', j2', j3'⟩
        unfold B_X1_lay_7
        simp (disch := omega) only [↓ce_63 hB', rf_63 hB', ↓ce_39 hB', rf_39 hB', ↓nn_40, ↓nn_41, ↓nn_42, ↓nn_43, ↓nn_44, ↓nn_65, ↓nn_66, p_bs, p_rq0, p_rq1, p_rz0, p_rz1, p_us, p_un, p_uj, ↓reduceIte, hn', p_lt, Nat.lt_irrefl]) (t_ng H') 0 q_fu (0, (I', X')) (by omega) (by unfold q_fu; omega) ⟨I', rfl, fun _ _ => rfl, fun _ _ => rfl, by rw [h0']; exact (t_BZ (fun g' _ => by simp)).symm⟩
  exact ⟨I'', h1', h2'⟩
theorem p_ofN1 (n' : Nat) (h' : n' < 2147483648) : (Int32.ofNat n' = -1) = False := by
  refine eq_false (fun e' => ?_)
  have := congrArg Int32.toInt e'
  rw [Int32.toInt_ofNat_of_lt (by omega)] at this
  have h1' : (-1 : Int32).toInt = -1 := rfl
  omega
theorem s_dishByDay (hB' : p_B X') (hH' : t_HI H' I') (hd' : 0 < t_nd H') (x' : Int32) : F_X3_dishByDay 39 x' (I', X') = some (x' - x' / Int32.ofNat (t_nd H') * Int32.ofNat (t_nd H')) := by
  have h5' : t_nd H' ≤ 5 := hH'.2.2.2.2.2.2.1
  unfold F_X3_dishByDay q_rmi
  simp (disch := omega) only [↓ce_39 hB', rf_39 hB', ↓nn_41, ↓nn_42, ↓nn_43, ↓nn_44, p_bs, p_rq0, p_rq1, p_rz0, p_rz1, p_us, p_un, p_uj, ↓reduceIte, hH'.2.2.2.2.1, p_cm, hd', show (t_nd H' = 0) = False from eq_false (by omega)]
/-- the day's remainder is a dish's number -/
theorem t_mod (D' n' : Nat) (hD' : D' < 2147483648) (hn' : 0 < n') (h5' : n' ≤ 5) : Int32.ofNat D' - Int32.ofNat D' / Int32.ofNat n' * Int32.ofNat n' = Int32.ofNat (D' % n') := by
  have e1' : Int32.ofNat D' / Int32.ofNat n' = Int32.ofNat (D' / n') := by
    apply Int32.toInt_inj.mp
    rw [Int32.toInt_div_of_ne_left]
    · rw [Int32.toInt_ofNat_of_lt (by omega), Int32.toInt_ofNat_of_lt (by omega), Int32.toInt_ofNat_of_lt (Nat.lt_of_le_of_lt (Nat.div_le_self _ _) (by omega))]
      rfl
    · intro e'
      have := congrArg Int32.toInt e'
      rw [Int32.toInt_ofNat_of_lt (by omega)] at this
      have h1' : Int32.minValue.toInt = -2147483648 := rfl
      omega
  have e2' : Int32.ofNat D' = Int32.ofNat (D' / n' * n') + Int32.ofNat (D' % n') := by
    rw [← Int32.ofNat_add, Nat.mul_comm, Nat.div_add_mod]
  rw [e1', ← Int32.ofNat_mul]
  rw [e2']
  rw [Int32.add_comm, Int32.add_sub_cancel]
end PD'
