/-! A DAY of the reference, whole -/
def p_T (X' : p_X) (v' : Nat) : p_X := (X'.1, q_u2 X'.2.1 87 5 v', X'.2.2)
theorem p_Ts (X' : p_X) : p_T X' (X'.2.1 87 5) = X' := by
  unfold p_T
  have : q_u2 X'.2.1 87 5 (X'.2.1 87 5) = X'.2.1 := by
    funext k' j'
    unfold q_u2 va_up
    by_cases h1' : k' = 87
    · subst h1'
      by_cases h2' : j' = 5
      · subst h2'; simp
      · simp [h2']
    · simp [h1']
  rw [this]
theorem p_TT (X' : p_X) (v' u' : Nat) : p_T (p_T X' v') u' = p_T X' u' := by
  unfold p_T
  have : q_u2 (q_u2 X'.2.1 87 5 v') 87 5 u' = q_u2 X'.2.1 87 5 u' := by
    funext k' j'
    unfold q_u2 va_up
    by_cases h1' : k' = 87
    · subst h1'
      by_cases h2' : j' = 5
      · subst h2'; simp
      · simp [h2']
    · simp [h1']
  simp only [this]
theorem p_uN (f' : Nat → Nat → Nat) (k' j' v' k'' j'' : Nat) (h' : ¬ (k'' = k' ∧ j'' = j')) : q_u2 f' k' j' v' k'' j'' = f' k'' j'' := by
  unfold q_u2 va_up
  by_cases h1' : k'' = k'
  · subst h1'
    have h2' : j'' ≠ j' := fun e' => h' ⟨rfl, e'⟩
    simp [h2']
  · simp [h1']
theorem p_BT {X' : p_X} (hB' : p_B X') (v' : Nat) : p_B (p_T X' v') := by
  refine ⟨hB'.1, fun z' hz' => ?_⟩
  have h' : ∀ z' ∈ p_rfT, ¬ (z'.1 = 87 ∧ z'.2.1 = 5) := by decide
  show q_u2 X'.2.1 87 5 v' z'.1 z'.2.1 = _
  rw [p_uN _ _ _ _ _ _ (h' z' hz')]
  exact hB'.2 z' hz'
/-- static cells: rows of bounds and texts -/
def t_stc (k' : Nat) : Nat → Int32 := if k' < 4 then (fun j' => (q_nums.getD k' []).getD j' 0) else if k' % 2 = 0 then (fun _ => 0) else (fun j' => (q_txts.getD ((k' - 5) / 2) []).getD j' 0)
def p_S (I' : p_I) : Prop := ∀ k', k' < 34 → I' k' = t_stc k'
/-- the reference's law that holds has the worth that L tells -/
def t_LM (L' : t_L) (X' : p_X) (I' : p_I) : Prop := match L' with
  | none => I' 87 34 = -1
  | some wf' => ∃ v', I' 87 34 = Int32.ofNat v' ∧ v' < 4 ∧ ∀ (u' : Nat) (J' : p_I) (ρ : Nat → Int32), t_Lb ρ → p_S J' → J' 89 = I' 89 → J' 90 = I' 90 → (J' 91 119 = ρ 0 ∧ J' 91 108 = ρ 1 ∧ J' 91 102 = ρ 2 ∧ J' 91 110 = ρ 3 ∧ J' 91 112 = ρ 4 ∧ J' 91 100 = ρ 5) →
    ∃ J'' u'', F_X12_goThrough 87 89 (Int32.ofNat (240 * v')) (I' 90 v') (J', p_T X' u') = some ((), J'', p_T X' u'') ∧ J'' 87 14 = wf' ρ ∧ (∀ x', x' ≠ 87 → J'' x' = J' x') ∧ (∀ j', ¬ (8 ≤ j' ∧ j' ≤ 14) → j' ≠ 17 → J'' 87 j' = J' 87 j')
theorem t_LMk {L' : t_L} {X' : p_X} {I' J' : p_I} (h' : t_LM L' X' I') (h1' : J' 87 34 = I' 87 34) (h2' : J' 89 = I' 89) (h3' : J' 90 = I' 90) : t_LM L' X' J' := by
  unfold t_LM at *
  cases L' with
  | none => rw [h1']; exact h'
  | some wf' =>
    obtain ⟨v', a1', a2', a3'⟩ := h'
    refine ⟨v', by rw [h1']; exact a1', a2', fun u' J'' ρ e0' e4' e1' e2' e3' => ?_⟩
    rw [h3']
    exact a3' u' J'' ρ e0' e4' (by rw [e1', h2']) (by rw [e2', h3']) e3'
theorem t_LMT {L' : t_L} {X' : p_X} {I' : p_I} (h' : t_LM L' X' I') (u' : Nat) : t_LM L' (p_T X' u') I' := by
  unfold t_LM at *
  cases L' with
  | none => exact h'
  | some wf' =>
    obtain ⟨v', a1', a2', a3'⟩ := h'
    refine ⟨v', a1', a2', fun u'' J' ρ e0' e4' e1' e2' e3' => ?_⟩
    simp only [p_TT]
    exact a3' u'' J' ρ e0' e4' e1' e2' e3'
theorem t_cl (w' : Nat) (hw' : w' ≤ 20) (l' : Bool) : q_mx (-9) (q_mn 20 (Int32.ofNat w' / 3 + (if l' = true then 3 else 0))) = Int32.ofNat w' / 3 + (if l' = true then 3 else 0) := by
  have h' : ∀ (w' : Fin 21) (l' : Bool), q_mx (-9) (q_mn 20 (Int32.ofNat w' / 3 + (if l' = true then 3 else 0))) = Int32.ofNat w' / 3 + (if l' = true then 3 else 0) := by decide +kernel
  exact h' ⟨w', by omega⟩ l'
theorem p_d3 : ((3 : Int32) = 0) = False := by decide
section PM'
variable {X' : p_X} {I' : p_I} {H' : t_H} {L' : t_L} {c' : Nat} {s' : Nat → Int32}
theorem s_joyL {wf' : (Nat → Int32) → Int32} (hB' : p_B X') (hS0' : p_S I') (hM' : t_HM H' I') (hW' : t_HW H') (hL' : t_LM (some wf') X' I') (g' : Nat) (hg' : g' < t_ng H') (w' : Int32) (l' : Bool) (f' n' d' s0' : Int32) (hb' : t_Lb (t_lt w' (t_b l') f' n' (t_hg H' (g' * 4 + 3)) d')) :
    ∃ I'' u', J_X12_joyOf_23 87 (Int32.ofNat g') w' (t_b l') f' n' d' s0' (I', X') = some (t_jb (some wf') w' l' f' n' (t_hg H' (g' * 4 + 3)) d', (I'', p_T X' u')) ∧ (∀ x', x' ≠ 87 → x' ≠ 91 → I'' x' = I' x') ∧ (∀ j', ¬ (8 ≤ j' ∧ j' ≤ 14) → j' ≠ 17 → I'' 87 j' = I' 87 j') := by
  obtain ⟨v', a1', a2', a3'⟩ := hL'
  have key' : ∀ b', b' = t_b l' → ∃ I'' u', J_X12_joyOf_56 87 (Int32.ofNat g') f' n' d' 91 108 b' (q_u2 I' 91 119 w', X') = some (t_jb (some wf') w' l' f' n' (t_hg H' (g' * 4 + 3)) d', (I'', p_T X' u')) ∧ (∀ x', x' ≠ 87 → x' ≠ 91 → I'' x' = I' x') ∧ (∀ j', ¬ (8 ≤ j' ∧ j' ≤ 14) → j' ≠ 17 → I'' 87 j' = I' 87 j') := by
    rintro b' rfl
    have hM'' : ∀ x1' x2' x3', t_HM H' (q_u2 (q_u2 (q_u2 (q_u2 I' 91 119 w') 91 108 x1') 91 102 x2') 91 110 x3') := fun x1' x2' x3' => t_HMk hM' (by simp (disch := omega) only [p_uc]) (by simp (disch := omega) only [p_uc]) (by simp (disch := omega) only [p_uc]) (by simp (disch := omega) only [p_un]) (by simp (disch := omega) only [p_un])
    have hp' := s_pays hB' (hM'' (t_b l') f' n') hW' g' hg'
    obtain ⟨J'', u'', b1', b2', b3', b4'⟩ := a3' (X'.2.1 87 5) (q_u2 (q_u2 (q_u2 (q_u2 (q_u2 (q_u2 I' 91 119 w') 91 108 (t_b l')) 91 102 f') 91 110 n') 91 112 (t_hg H' (g' * 4 + 3))) 91 100 d') (t_lt w' (t_b l') f' n' (t_hg H' (g' * 4 + 3)) d') hb' (fun k' hk' => by simp (disch := omega) only [p_uc]; exact hS0' k' hk') (by simp (disch := omega) only [p_uc]) (by simp (disch := omega) only [p_uc]) (by
      simp (disch := omega) only [p_us, p_uj, t_lt]
      exact ⟨trivial, trivial, trivial, trivial, trivial, trivial⟩)
    rw [p_Ts] at b1'
    unfold J_X12_joyOf_56 J_X12_joyOf_127
    simp (disch := omega) only [↓ce_87 hB', rf_87 hB', ↓ce_91 hB', ↓ce_90 hB', ↓nn_31, ↓nn_33, ↓nn_89, ↓nn_90, ↓nn_91, ↓nn_92, ↓nn_93, ↓nn_94, ↓nn_95, ↓nn_96, ↓nn_97, ↓nn_98, ↓nn_99, ↓nn_100, ↓nn_101, ↓nn_102, ↓nn_103, ↓nn_104, ↓nn_105, ↓nn_106, ↓nn_107, ↓nn_108, p_bs, p_rq0, p_rq1, p_rz0, p_rz1, p_us, p_un, p_uj, ↓reduceIte, hp', a1', p_ar, b1']
    rw [p_gI (sh_87 (p_BT hB' u'')), b2']
    refine ⟨J'', u'', rfl, ?_, ?_⟩
    · intro x' x1' x2'; rw [b3' x' x1']; simp (disch := omega) only [p_uc]
    · intro j' j1' j2'; rw [b4' j' j1' j2']; simp (disch := omega) only [p_un]
  unfold J_X12_joyOf_23
  simp (disch := omega) only [↓ce_87 hB', rf_87 hB', ↓ce_91 hB', ↓nn_31, ↓nn_33, ↓nn_89, ↓nn_90, ↓nn_91, ↓nn_92, ↓nn_93, ↓nn_94, ↓nn_95, ↓nn_96, ↓nn_97, ↓nn_98, ↓nn_99, ↓nn_100, ↓nn_101, ↓nn_102, ↓nn_103, ↓nn_104, ↓nn_105, ↓nn_106, ↓nn_107, ↓nn_108, p_bs, p_rq0, p_rq1, p_rz0, p_rz1, p_us, p_un, p_uj, ↓reduceIte, a1', p_ofN1, t_b0]
  cases l'
  · simp only [↓reduceIte]; exact key' 0 rfl
  · simp only [Bool.true_eq_false, ↓reduceIte]; exact key' 1 rfl
theorem s_joyOf (hB' : p_B X') (hS0' : p_S I') (hM' : t_HM H' I') (hW' : t_HW H') (hL' : t_LM L' X' I') (g' : Nat) (hg' : g' < t_ng H') (w' : Nat) (hw' : w' ≤ 20) (l' : Bool) (f' n' d' : Int32) (hb' : t_Lb (t_lt (Int32.ofNat w') (t_b l') f' n' (t_hg H' (g' * 4 + 3)) d')) :
    ∃ I'' u', F_X12_joyOf 87 (Int32.ofNat g') (Int32.ofNat w') (t_b l') f' n' d' (I', X') = some (t_jb L' (Int32.ofNat w') l' f' n' (t_hg H' (g' * 4 + 3)) d', (I'', p_T X' u')) ∧ (∀ x', x' ≠ 87 → x' ≠ 91 → I'' x' = I' x') ∧ (∀ j', ¬ (8 ≤ j' ∧ j' ≤ 14) → j' ≠ 17 → I'' 87 j' = I' 87 j') := by
  unfold F_X12_joyOf J_X12_joyOf_22 q_dvi
  simp only [p_d3, ↓reduceIte, t_b0]
  cases L' with
  | some wf' =>
    by_cases h1' : f' = 0
    · simp only [h1', ↓reduceIte]
      exact s_joyL hB' hS0' hM' hW' hL' g' hg' (Int32.ofNat w') l' 0 n' d' _ (h1' ▸ hb')
    · simp only [h1', ↓reduceIte]
      cases l'
      · simp only [↓reduceIte]; exact s_joyL hB' hS0' hM' hW' hL' g' hg' (Int32.ofNat w') false f' n' d' _ hb'
      · simp only [Bool.true_eq_false, ↓reduceIte]; exact s_joyL hB' hS0' hM' hW' hL' g' hg' (Int32.ofNat w') true f' n' d' _ hb'
  | none =>
    have hL'' : I' 87 34 = -1 := hL'
    refine ⟨I', X'.2.1 87 5, ?_, fun _ _ _ => rfl, fun _ _ _ => rfl⟩
    rw [p_Ts]
    unfold J_X12_joyOf_23 J_X12_joyOf_127 t_jb
    simp (disch := omega) only [↓ce_87 hB', rf_87 hB', ↓nn_31, ↓nn_33, ↓nn_89, ↓nn_90, ↓nn_91, ↓nn_92, ↓nn_93, ↓nn_94, ↓nn_95, ↓nn_96, ↓nn_97, ↓nn_98, ↓nn_99, ↓nn_100, ↓nn_101, ↓nn_102, ↓nn_103, ↓nn_104, ↓nn_105, ↓nn_106, ↓nn_107, ↓nn_108, p_bs, p_rq0, p_rq1, p_rz0, p_rz1, p_us, p_un, p_uj, ↓reduceIte, hL'']
    by_cases h1' : f' = 0
    · simp only [h1', ↓reduceIte]; rfl
    · simp only [h1', ↓reduceIte]
      rw [← t_cl w' hw' l']
      cases l'
      · simp only [Bool.false_eq_true, ↓reduceIte]
      · simp only [Bool.true_eq_false, ↓reduceIte]
end PM'
theorem t_bitU (p' : Nat → Bool) (g' x' : Nat) (hg' : g' < 6) (hx' : x' < 6) : t_bit (t_B p' ||| ((1 : Int32) <<< (Int32.ofNat g' &&& 31))) x' = (p' x' || x' == g') := by
  rw [t_BO p' g' hg', t_BA _ x' hx']
section PM'
variable {X' : p_X} {I' : p_I} {H' : t_H} {L' : t_L} {c' : Nat} {s' r' : Nat → Int32}
theorem s_mglad (hB' : p_B X') (hS0' : p_S I') (hM' : t_HM H' I') (hW' : t_HW H') (hc' : t_RK c') (hL' : t_LM L' X' I') (hR' : t_RS r' (I' c')) (hp' : ∃ p', r' 4 = t_B p') (g' : Nat) (hg' : g' < t_ng H') {wn' : Nat} (hwn' : t_wm H' s' = Int32.ofNat wn') (hw20' : wn' ≤ 20) (h38' : I' 87 38 = t_wm H' s') (h102 : I' 102 g' = t_pl H' s' g') (hb' : ∀ l', t_Lb (t_lt (t_wm H' s') (t_b l') (t_pl H' s' g') (r' 0 - t_hg H' (g' * 4)) (t_hg H' (g' * 4 + 3)) (r' 0))) (l2' : Int32) (l' : Bool) (hl' : l' = (!decide (t_ds H' s' = -1) && decide (t_hd H' ((t_ds H' s').toNatClampNeg * 3 + 2) = r' (19 + g')))) :
    ∃ I'' u', J_X12_goDay_95_45 87 c' l2' (Int32.ofNat g') (t_b l') (I', X') = some (.inl (Int32.ofNat (g' + 1), (I'', p_T X' u'))) ∧ (∀ x', x' ≠ 87 → x' ≠ 91 → x' ≠ c' → I'' x' = I' x') ∧ (∀ j', ¬ (8 ≤ j' ∧ j' ≤ 14) → j' ≠ 17 → I'' 87 j' = I' 87 j') ∧ t_RS (t_gd H' L' s' r' g') (I'' c') ∧ (∀ j', 36 ≤ j' → I'' c' j' = I' c' j') := by
  have hng' : t_ng H' ≤ 6 := hW'.2.2.2.1
  have hcn' : c' ≠ 87 ∧ c' ≠ 91 ∧ c' ≠ 92 ∧ c' ≠ 94 ∧ c' ≠ 96 := by omega
  obtain ⟨p', hp'⟩ := hp'
  obtain ⟨⟨r1', r2', r3', r4'⟩, r5', r6'⟩ := hR'
  obtain ⟨g1', g2', g3', g4'⟩ := r1' g' (by omega)
  have hC' := s_comes hB' hM' hW' g' hg'
  obtain ⟨J', u', a1', a2', a3'⟩ := s_joyOf hB' hS0' hM' hW' hL' g' hg' wn' hw20' l' (t_pl H' s' g') (r' 0 - t_hg H' (g' * 4)) (r' 0) (hwn' ▸ hb' l')
  rw [← hwn'] at a1'
  have hB'' := p_BT hB' u'
  have hM'' : ∀ v', t_HM H' (q_u2 J' c' (4 * g' + 2) v') := fun v' => t_HMk hM' (by rw [p_uc _ _ _ _ _ hcn'.2.2.1.symm, a2' _ (by decide) (by decide)]) (by rw [p_uc _ _ _ _ _ hcn'.2.2.2.1.symm, a2' _ (by decide) (by decide)]) (by rw [p_uc _ _ _ _ _ hcn'.2.2.2.2.symm, a2' _ (by decide) (by decide)]) (by rw [p_un _ _ _ _ _ _ hcn'.1.symm]; exact a3' 26 (by omega) (by omega)) (by rw [p_un _ _ _ _ _ _ hcn'.1.symm]; exact a3' 27 (by omega) (by omega))
  have eJ' : J' c' = I' c' := a2' c' hcn'.1 hcn'.2.1
  unfold J_X12_goDay_95_45 J_X12_goDay_198_45
  simp (disch := omega) only [↓ce_87 hB', rf_87 hB', ↓ce_102 hB', ↓nn_31, ↓nn_33, ↓nn_89, ↓nn_90, ↓nn_91, ↓nn_92, ↓nn_93, ↓nn_94, ↓nn_95, ↓nn_96, ↓nn_97, ↓nn_98, ↓nn_99, ↓nn_100, ↓nn_101, ↓nn_102, ↓nn_103, ↓nn_104, ↓nn_105, ↓nn_106, ↓nn_107, ↓nn_108, p_bs, p_rq0, p_rq1, p_rz0, p_rz1, p_us, p_un, p_uj, ↓reduceIte, p_mr hc' hB', p_ar, h38', h102, hC', r4', a1']
  generalize hjo' : q_mx (-99) (q_mn 999 (I' c' (4 * g' + 2) + t_jb L' (t_wm H' s') l' (t_pl H' s' g') (r' 0 - t_hg H' (g' * 4)) (t_hg H' (g' * 4 + 3)) (r' 0))) = joy'
  have hP' := s_pays hB'' (hM'' joy') hW' g' hg'
  simp (disch := omega) only [p_mr hc' hB'', p_ob (sh_87 hB''), hP', p_bs, p_us, p_uj, eJ', ↓reduceIte]
  have hgd' : t_gd H' L' s' r' g' = if -10 < joy' then va_up (va_up r' (25 + g') joy') 2 (q_mn 999 (r' 2 + t_hg H' (g' * 4 + 3))) else va_up (va_up (va_up r' (25 + g') joy') 2 (q_mn 999 (r' 2 + t_hg H' (g' * 4 + 3)))) 4 (r' 4 ||| ((1 : Int32) <<< (Int32.ofNat g' &&& 31))) := by
    rw [← hjo', g3']
    unfold t_gd
    simp only [← hl']
  rw [hgd']
  have hfr' : ∀ (j' : Nat), j' ≠ 4 * g' + 2 → j' ≠ 33 → ∀ v' v'', va_up (va_up (I' c') (4 * g' + 2) v') 33 v'' j' = I' c' j' := fun j' h1' h2' v' v'' => by rw [p_vn _ _ _ _ h2', p_vn _ _ _ _ h1']
  by_cases hj' : -10 < joy'
  · simp only [hj', ↓reduceIte]
    refine ⟨_, u', rfl, ?_, ?_, ?_, ?_⟩
    · intro x' x1' x2' x3'; rw [p_uc _ _ _ _ _ x3', p_uc _ _ _ _ _ x3', a2' x' x1' x2']
    · intro j' j1' j2'; rw [p_un _ _ _ _ _ _ hcn'.1.symm, p_un _ _ _ _ _ _ hcn'.1.symm, a3' j' j1' j2']
    · rw [p_ur, p_ur, eJ']
      refine ⟨⟨fun x' hx' => ?_, ?_, ?_, ?_⟩, fun j' hj' => ?_, ?_⟩
      · obtain ⟨q1', q2', q3', q4'⟩ := r1' x' hx'
        refine ⟨?_, ?_, ?_, ?_⟩
        · simp (disch := omega) only [p_vn]; exact q1'
        · simp (disch := omega) only [p_vn]; exact q2'
        · by_cases e' : x' = g'
          · subst e'; simp (disch := omega) only [p_vn, p_vs]
          · simp (disch := omega) only [p_vn]; exact q3'
        · simp (disch := omega) only [p_vn]; exact q4'
      · simp (disch := omega) only [p_vn]; exact r2'
      · simp (disch := omega) only [p_vn]; exact r3'
      · simp (disch := omega) only [p_vn]; exact r4'
      · simp (disch := omega) only [p_vn]; exact r5' j' hj'
      · simp (disch := omega) only [p_vs]; rw [r6']
    · intro j' hj'; rw [p_ur, p_ur, eJ']; exact hfr' j' (by omega) (by omega) _ _
  · simp only [hj', ↓reduceIte]
    refine ⟨_, u', rfl, ?_, ?_, ?_, ?_⟩
    · intro x' x1' x2' x3'; rw [p_uc _ _ _ _ _ x3', p_uc _ _ _ _ _ x3', p_uc _ _ _ _ _ x3', a2' x' x1' x2']
    · intro j' j1' j2'; rw [p_un _ _ _ _ _ _ hcn'.1.symm, p_un _ _ _ _ _ _ hcn'.1.symm, p_un _ _ _ _ _ _ hcn'.1.symm, a3' j' j1' j2']
    · rw [p_ur, p_ur, p_ur, eJ']
      refine ⟨⟨fun x' hx' => ?_, ?_, ?_, ?_⟩, fun j' hj' => ?_, ?_⟩
      · obtain ⟨q1', q2', q3', q4'⟩ := r1' x' hx'
        refine ⟨?_, ?_, ?_, ?_⟩
        · simp (disch := omega) only [p_vn]; exact q1'
        · simp (disch := omega) only [p_vn]; exact q2'
        · by_cases e' : x' = g'
          · subst e'; simp (disch := omega) only [p_vn, p_vs]
          · simp (disch := omega) only [p_vn]; exact q3'
        · rw [p_vs, hp', t_bitU p' g' x' (by omega) hx']
          rw [hp', t_BA p' x' hx'] at q4'
          by_cases e' : x' = g'
          · subst e'; rw [p_vs]; simp [t_b]
          · simp (disch := omega) only [p_vn]; rw [q4', beq_false_of_ne e', Bool.or_false]
      · simp (disch := omega) only [p_vn]; exact r2'
      · simp (disch := omega) only [p_vn]; exact r3'
      · simp (disch := omega) only [p_vn]; exact r4'
      · simp (disch := omega) only [p_vn]; exact r5' j' hj'
      · simp (disch := omega) only [p_vn, p_vs]; rw [r6']
    · intro j' hj'; rw [p_ur, p_ur, p_ur, eJ', p_vn _ _ _ _ (by omega)]; exact hfr' j' (by omega) (by omega) _ _
end PM'
