/-! the reference's conditions -/
def t_MRb (X' : p_X) (I' : p_I) (o' : Option (Int32 × q_Mem)) (r' : t_R) : Prop := match r' with
  | .inl x' => ∃ b' J'', o' = some (t_b b', (J'', X')) ∧ t_QD I' x' J''
  | .inr (x', _, v') => ∃ b' J'', o' = some (t_b b', (J'', X')) ∧ (t_Lb (t_rh I') → t_b b' = v' (t_rh I')) ∧ t_QE I' x' J''
theorem t_MRbt {X' : p_X} {I' J' : p_I} {e' : Nat} {o' : Option (Int32 × q_Mem)} {r' : t_R} (h' : t_QE I' e' J') (hr' : t_MRb X' J' o' r') : t_MRb X' I' o' r' := by
  cases r' with
  | inl x' =>
    obtain ⟨b', K', h1', h2'⟩ := hr'
    exact ⟨b', K', h1', t_QDt h' h2'⟩
  | inr z' =>
    obtain ⟨x', c', v'⟩ := z'
    obtain ⟨b', K', h1', h2', h3'⟩ := hr'
    rw [t_rhq h'] at h2'
    exact ⟨b', K', h1', h2', t_QEt h' h3'⟩
theorem t_pa3 {β : Nat → Nat} {n' : Nat} (ts' : Nat → Nat) (e' : Nat) : t_pa β n' ts' 3 e' = if t_is β n' e' (ts' 0) = true then some 0 else if t_is β n' e' (ts' 1) = true then some 1 else if t_is β n' e' (ts' 2) = true then some 2 else none := by
  unfold t_pa t_ix t_is
  rw [t_ixf, t_ixf, t_ixf, t_ixf]
  by_cases he' : e' < n'
  · by_cases h0' : ts' 0 = β e'
    · simp [he', h0']
    · have h0'' : ¬ β e' = ts' 0 := fun h' => h0' h'.symm
      by_cases h1' : ts' 1 = β e'
      · simp [he', h0', h0'', h1']
      · have h1'' : ¬ β e' = ts' 1 := fun h' => h1' h'.symm
        by_cases h2' : ts' 2 = β e'
        · simp [he', h0', h0'', h1', h1'', h2']
        · have h2'' : ¬ β e' = ts' 2 := fun h' => h2' h'.symm
          simp [he', h0', h0'', h1', h1'', h2', h2'']
  · simp [he']
theorem s_isSign {β : Nat → Nat} {n' : Nat} (hβ : ∀ i', i' < n' → β i' < 256) (e' : Nat) (M' : q_Mem) : F_X12_isSign (t_sg β n' e') M' = some (t_b (t_pa β n' t_s3 3 e').isSome) := by
  have hp' := t_pa3 (β := β) (n' := n') t_s3 e'
  rw [show t_s3 0 = 61 from rfl, show t_s3 1 = 60 from rfl, show t_s3 2 = 62 from rfl] at hp'
  unfold F_X12_isSign
  rw [show (61 : Int32) = Int32.ofNat 61 from rfl, show (60 : Int32) = Int32.ofNat 60 from rfl, show (62 : Int32) = Int32.ofNat 62 from rfl, hp']
  simp only [t_sgE2 hβ _ _ (show (61 : Nat) < 256 by decide), t_sgE2 hβ _ _ (show (60 : Nat) < 256 by decide), t_sgE2 hβ _ _ (show (62 : Nat) < 256 by decide), t_isE]
  by_cases h0' : t_is β n' e' 61 = true
  · simp only [h0', ↓reduceIte]; rfl
  · by_cases h1' : t_is β n' e' 60 = true
    · simp only [h0', h1', ↓reduceIte]; rfl
    · by_cases h2' : t_is β n' e' 62 = true
      · simp only [h0', h1', h2', ↓reduceIte]; rfl
      · simp only [h0', h1', h2', ↓reduceIte]; rfl
theorem t_zb (c' : Prop) [Decidable c'] (M' : q_Mem) : (if c' then q_rz (1 : Int32) M' else q_rz (0 : Int32) M') = some (t_b (decide c'), M') := by
  by_cases h' : c'
  · simp [h', t_b, p_rz1]
  · simp [h', t_b, p_rz0]
theorem t_jnEq (a' b' : Int32) : t_jn (-11) a' b' = t_b (decide (a' = b')) := by
  unfold t_jn
  rw [if_neg (by decide), if_neg (by decide), if_neg (by decide), if_neg (by decide), if_pos rfl]
  by_cases h' : a' = b' <;> simp [h', t_b]
theorem t_jnLt (a' b' : Int32) : t_jn (-12) a' b' = t_b (decide (a' < b')) := by
  unfold t_jn
  rw [if_neg (by decide), if_neg (by decide), if_neg (by decide), if_pos rfl]
  by_cases h' : a' < b' <;> simp [h', t_b]
theorem t_jnGt (a' b' : Int32) : t_jn (-13) a' b' = t_b (decide (b' < a')) := by
  unfold t_jn
  rw [if_neg (by decide), if_neg (by decide), if_pos rfl]
  by_cases h' : b' < a' <;> simp [h', t_b]
theorem t_jnAnd (a' b' : Bool) : t_jn (-14) (t_b a') (t_b b') = t_b (a' && b') := by cases a' <;> cases b' <;> decide
theorem t_jnOr (a' b' : Bool) : t_jn (-15) (t_b a') (t_b b') = t_b (a' || b') := by cases a' <;> cases b' <;> decide
section PL'
variable {X' : p_X} {I' : p_I} {β : Nat → Nat} {n' tc' bg' e' d' : Nat}
theorem s_mcmpN (hB' : p_B X') (h' : ¬ I' 87 11 = -1) (s0' : Int32) : J_X12_compares_12 87 s0' (I', X') = some (0, (I', X')) := by
  unfold J_X12_compares_12
  simp (disch := omega) only [↓ce_87 hB', rf_87 hB', ↓nn_31, ↓nn_33, ↓nn_89, ↓nn_90, ↓nn_91, ↓nn_92, ↓nn_93, ↓nn_94, ↓nn_95, ↓nn_96, ↓nn_97, ↓nn_98, ↓nn_99, ↓nn_100, ↓nn_101, ↓nn_102, ↓nn_103, ↓nn_104, ↓nn_105, ↓nn_106, ↓nn_107, ↓nn_108, p_bs, p_rq0, p_rq1, p_rz0, p_rz1, p_us, p_un, p_uj, ↓reduceIte, h']
theorem s_mcmp (hB' : p_B X') (hS' : p_S I') {S' : Nat → t_R} {a' : Nat} (hg' : ∀ e', e' ≤ n' → t_GR n' a' e' 0 False (S' e')) (hA' : ∀ I' e', p_S I' → t_EN β n' tc' bg' X' I' e' d' → t_MR X' I' (R_X12_atom 60 1 87 (I', X')) (S' e')) (hE' : t_EN β n' tc' bg' X' I' e' d') (c' : List Int32) (v' : t_V) (s0' : Int32) (hs0' : t_Lb (t_rh I') → s0' = v' (t_rh I')) : t_MRb X' I' (J_X12_compares_12 87 s0' (I', X')) (t_cmp β n' S' e' c' v') := by
  obtain ⟨hR', he', hen', h11', h12'⟩ := id hE'
  have hn' := hR'.2.2.2.2.1
  have hβ := hR'.2.2.2.2.2.2
  obtain ⟨J1', b1', b2'⟩ := s_look hB' hR' he' hen'
  have hL' := t_skL β n' e'
  have hU' := t_skU β n' e' hen'
  have hE1' := t_ENq hE' b2' hU'
  have hsg' := s_isSign hβ (t_sk β n' e') (J1', X')
  have hF' := s_fails hB' b2'.2.2 hE1'.2.2.2.1
  unfold J_X12_compares_12 t_cmp
  simp (disch := omega) only [↓ce_87 hB', rf_87 hB', ↓nn_31, ↓nn_33, ↓nn_89, ↓nn_90, ↓nn_91, ↓nn_92, ↓nn_93, ↓nn_94, ↓nn_95, ↓nn_96, ↓nn_97, ↓nn_98, ↓nn_99, ↓nn_100, ↓nn_101, ↓nn_102, ↓nn_103, ↓nn_104, ↓nn_105, ↓nn_106, ↓nn_107, ↓nn_108, p_bs, p_rq0, p_rq1, p_rz0, p_rz1, p_us, p_un, p_uj, ↓reduceIte, h11', b1', hsg', t_b0]
  cases hpa' : t_pa β n' t_s3 3 (t_sk β n' e') with
  | none =>
    simp (disch := omega) only [↓ce_87 hB', rf_87 hB', ↓nn_31, ↓nn_33, ↓nn_89, ↓nn_90, ↓nn_91, ↓nn_92, ↓nn_93, ↓nn_94, ↓nn_95, ↓nn_96, ↓nn_97, ↓nn_98, ↓nn_99, ↓nn_100, ↓nn_101, ↓nn_102, ↓nn_103, ↓nn_104, ↓nn_105, ↓nn_106, ↓nn_107, ↓nn_108, p_bs, p_rq0, p_rq1, p_rz0, p_rz1, p_us, p_un, p_uj, ↓reduceIte, Option.isSome_none, hF']
    exact ⟨false, _, rfl, t_QDt b2' (t_QDx (t_QEx (t_QEs b2'.2.2)))⟩
  | some w' =>
    obtain ⟨p1', p2', p3'⟩ := t_paB hpa'
    have qk' := t_QEu (e'' := t_sk β n' e' + 1) b2'
    have hEk' := t_ENq hE' qk' (by omega)
    have hSk' : p_S (q_u2 J1' 87 10 (Int32.ofNat (t_sk β n' e' + 1))) := fun k' hk' => by rw [qk'.1 k' (by omega)]; exact hS' k' hk'
    have hr2' := hA' _ (t_sk β n' e' + 1) hSk' hEk'
    have hrho : t_rh (q_u2 J1' 87 10 (Int32.ofNat (t_sk β n' e' + 1))) = t_rh I' := t_rhq qk'
    rw [show (61 : Int32) = Int32.ofNat 61 from rfl, show (60 : Int32) = Int32.ofNat 60 from rfl]
    simp (disch := omega) only [↓ce_87 hB', rf_87 hB', ↓nn_31, ↓nn_33, ↓nn_89, ↓nn_90, ↓nn_91, ↓nn_92, ↓nn_93, ↓nn_94, ↓nn_95, ↓nn_96, ↓nn_97, ↓nn_98, ↓nn_99, ↓nn_100, ↓nn_101, ↓nn_102, ↓nn_103, ↓nn_104, ↓nn_105, ↓nn_106, ↓nn_107, ↓nn_108, p_bs, p_rq0, p_rq1, p_rz0, p_rz1, p_us, p_un, p_uj, ↓reduceIte, Option.isSome_some, Bool.true_eq_false, b2'.2.2, p_ar, t_sgE2 hβ _ _ (show (61 : Nat) < 256 by decide), t_sgE2 hβ _ _ (show (60 : Nat) < 256 by decide), t_isE]
    have hw' : w' = 0 ∨ w' = 1 ∨ w' = 2 := by omega
    have hall : ∀ (u' : Int32) (M' : q_Mem), ∃ b', (if t_is β n' (t_sk β n' e') 61 = true then (if s0' = u' then q_rz (1 : Int32) M' else q_rz (0 : Int32) M') else if t_is β n' (t_sk β n' e') 60 = true then (if s0' < u' then q_rz (1 : Int32) M' else q_rz (0 : Int32) M') else (if u' < s0' then q_rz (1 : Int32) M' else q_rz (0 : Int32) M')) = some (t_b b', M') ∧ t_b b' = t_jn (-11 - Int32.ofNat w') s0' u' := by
      intro u' M'
      simp only [t_zb]
      rcases hw' with rfl | rfl | rfl
      · have hx' : t_is β n' (t_sk β n' e') 61 = true := by rw [← t_isE]; exact ⟨p1', p3'.symm⟩
        refine ⟨decide (s0' = u'), by simp only [hx', ↓reduceIte], ?_⟩
        rw [show (-11 : Int32) - Int32.ofNat 0 = -11 by decide, t_jnEq]
      · have hx' : t_is β n' (t_sk β n' e') 60 = true := by rw [← t_isE]; exact ⟨p1', p3'.symm⟩
        have hy' : t_is β n' (t_sk β n' e') 61 = false := t_isN hx' (by decide)
        refine ⟨decide (s0' < u'), by simp only [hx', hy', Bool.false_eq_true, ↓reduceIte], ?_⟩
        rw [show (-11 : Int32) - Int32.ofNat 1 = -12 by decide, t_jnLt]
      · have hx' : t_is β n' (t_sk β n' e') 62 = true := by rw [← t_isE]; exact ⟨p1', p3'.symm⟩
        have hy' : t_is β n' (t_sk β n' e') 61 = false := t_isN hx' (by decide)
        have hz' : t_is β n' (t_sk β n' e') 60 = false := t_isN hx' (by decide)
        refine ⟨decide (u' < s0'), by simp only [hz', hy', Bool.false_eq_true, ↓reduceIte], ?_⟩
        rw [show (-11 : Int32) - Int32.ofNat 2 = -13 by decide, t_jnGt]
    simp only [p_rz0, p_rz1] at hall
    cases hs2' : S' (t_sk β n' e' + 1) with
    | inl x' =>
      rw [hs2'] at hr2'
      obtain ⟨u', K2', m1', m2'⟩ := hr2'
      simp only [m1', p_bs]
      obtain ⟨b', y1', y2'⟩ := hall u' (K2', X')
      rw [y1']
      exact ⟨b', K2', rfl, t_QDt qk' m2'⟩
    | inr z2' =>
      obtain ⟨x', cc', v2'⟩ := z2'
      rw [hs2'] at hr2'
      obtain ⟨u', K2', m1', m2', m3'⟩ := hr2'
      rw [hrho] at m2'
      simp only [m1', p_bs]
      obtain ⟨b', y1', y2'⟩ := hall u' (K2', X')
      rw [y1']
      refine ⟨b', K2', rfl, fun hb' => ?_, t_QEt qk' m3'⟩
      show t_b b' = t_jn (-11 - Int32.ofNat w') (v' (t_rh I')) (v2' (t_rh I'))
      rw [y2', hs0' hb', m2' hb']
theorem s_munit (hB' : p_B X') (hS' : p_S I') (hd' : d' ≤ 6) {rec'' : Nat → Nat → Int32 → Int32 → q_Mem → Option (Int32 × q_Mem)} {S' : Nat → t_R} {a' : Nat} (hg' : ∀ e', e' ≤ n' → t_GR n' a' e' 0 False (S' e')) (hA' : ∀ I' e', p_S I' → t_EN β n' tc' bg' X' I' e' d' → t_MR X' I' (R_X12_atom 60 1 87 (I', X')) (S' e')) {inner : Option ((Nat → t_R) × (Nat → t_R))}
    (hin' : (d' = 6 ∧ inner = none) ∨ (d' < 6 ∧ ∃ U' C', inner = some (U', C') ∧ (∃ a', ∀ e', e' ≤ n' → t_GR n' a' e' 0 True (U' e') ∧ t_GR n' a' e' 0 True (C' e')) ∧ (∀ I' e', p_S I' → t_EN β n' tc' bg' X' I' e' (d' + 1) → t_MRb X' I' (rec'' 2 87 0 0 (I', X')) (U' e')) ∧ (∀ I' e', p_S I' → t_EN β n' tc' bg' X' I' e' (d' + 1) → t_MRb X' I' (rec'' 0 87 0 0 (I', X')) (C' e'))))
    (hE' : t_EN β n' tc' bg' X' I' e' d') : t_MRb X' I' (F_X12_unit rec'' 87 (I', X')) (t_utB β n' S' inner none e') := by
  obtain ⟨hR', he', hen', h11', h12'⟩ := id hE'
  have hn' := hR'.2.2.2.2.1
  have hβ := hR'.2.2.2.2.2.2
  obtain ⟨J1', b1', b2'⟩ := s_look hB' hR' he' hen'
  have hL' := t_skL β n' e'
  have hU' := t_skU β n' e' hen'
  have hE1' := t_ENq hE' b2' hU'
  have hS1' : p_S J1' := fun k' hk' => by rw [b2'.1 k' (by omega)]; exact hS' k' hk'
  have hG' := s_goesIn hB' hE1' hd'
  have hp2' := t_pa2 (β := β) (n' := n') t_s4 (t_sk β n' e')
  rw [show t_s4 0 = 33 from rfl, show t_s4 1 = 40 from rfl] at hp2'
  unfold F_X12_unit t_utB
  rw [show (33 : Int32) = Int32.ofNat 33 from rfl, show (40 : Int32) = Int32.ofNat 40 from rfl]
  simp (disch := omega) only [↓ce_87 hB', rf_87 hB', ↓nn_31, ↓nn_33, ↓nn_89, ↓nn_90, ↓nn_91, ↓nn_92, ↓nn_93, ↓nn_94, ↓nn_95, ↓nn_96, ↓nn_97, ↓nn_98, ↓nn_99, ↓nn_100, ↓nn_101, ↓nn_102, ↓nn_103, ↓nn_104, ↓nn_105, ↓nn_106, ↓nn_107, ↓nn_108, p_bs, p_rq0, p_rq1, p_rz0, p_rz1, p_us, p_un, p_uj, ↓reduceIte, b1', t_sgE2 hβ _ _ (show (33 : Nat) < 256 by decide), t_sgE2 hβ _ _ (show (40 : Nat) < 256 by decide), t_isE]
  have hSg' : p_S (q_u2 (q_u2 J1' 87 12 (Int32.ofNat (d' + 1))) 87 10 (Int32.ofNat (t_sk β n' e' + 1))) := fun k' hk' => by rw [p_uc _ _ _ _ _ (by omega), p_uc _ _ _ _ _ (by omega)]; exact hS1' k' hk'
  by_cases h33' : t_is β n' (t_sk β n' e') 33 = true
  · rw [if_pos h33'] at hp2'
    have hlt' := t_is1 h33'
    rw [hp2']
    simp only [h33', ↓reduceIte, hG', p_ob (sh_87 hB')]
    rcases hin' with ⟨rfl, rfl⟩ | ⟨hd6', U', C', rfl, ⟨a0', hgr'⟩, hUr', hCr'⟩
    · simp only [↓reduceIte, p_bs, p_rz0]
      exact ⟨false, _, rfl, t_QDt b2' (t_QDx (t_QEx (t_QEs b2'.2.2)))⟩
    · have hne' : ¬ d' = 6 := by omega
      have hr' := hUr' _ (t_sk β n' e' + 1) hSg' (t_ENg hE1' hlt')
      simp only [hne', ↓reduceIte, p_bs, show ((1 : Int32) = 0) = False from by decide, p_ob (sh_87 hB')]
      cases hs' : U' (t_sk β n' e' + 1) with
      | inl x' =>
        rw [hs'] at hr'
        obtain ⟨b', J3', r1', r2'⟩ := hr'
        simp (disch := omega) only [↓ce_87 hB', rf_87 hB', ↓nn_31, ↓nn_33, ↓nn_89, ↓nn_90, ↓nn_91, ↓nn_92, ↓nn_93, ↓nn_94, ↓nn_95, ↓nn_96, ↓nn_97, ↓nn_98, ↓nn_99, ↓nn_100, ↓nn_101, ↓nn_102, ↓nn_103, ↓nn_104, ↓nn_105, ↓nn_106, ↓nn_107, ↓nn_108, p_bs, p_rq0, p_rq1, p_rz0, p_rz1, p_us, p_un, p_uj, ↓reduceIte, r1', t_b0]
        have q' := t_QDt b2' (t_QDg r2')
        cases b'
        · exact ⟨true, _, rfl, ⟨fun c' hc' => by rw [p_uc _ _ _ _ _ hc']; exact q'.1 c' hc', fun j' h1' h2' h3' => by rw [p_uj _ _ _ _ _ h3']; exact q'.2.1 j' h1' h2' h3', by rw [p_uj _ _ _ _ _ (by decide)]; exact q'.2.2⟩⟩
        · exact ⟨false, _, rfl, ⟨fun c' hc' => by rw [p_uc _ _ _ _ _ hc']; exact q'.1 c' hc', fun j' h1' h2' h3' => by rw [p_uj _ _ _ _ _ h3']; exact q'.2.1 j' h1' h2' h3', by rw [p_uj _ _ _ _ _ (by decide)]; exact q'.2.2⟩⟩
      | inr z' =>
        obtain ⟨x', c', v'⟩ := z'
        rw [hs'] at hr'
        obtain ⟨b', J3', r1', r2', r3'⟩ := hr'
        rw [t_rhg, t_rhq b2'] at r2'
        have l12' : J3' 87 12 = Int32.ofNat (d' + 1) := by rw [r3'.2.1 12 (by decide), p_uj _ _ _ _ _ (by decide), p_us]
        simp (disch := omega) only [↓ce_87 hB', rf_87 hB', ↓nn_31, ↓nn_33, ↓nn_89, ↓nn_90, ↓nn_91, ↓nn_92, ↓nn_93, ↓nn_94, ↓nn_95, ↓nn_96, ↓nn_97, ↓nn_98, ↓nn_99, ↓nn_100, ↓nn_101, ↓nn_102, ↓nn_103, ↓nn_104, ↓nn_105, ↓nn_106, ↓nn_107, ↓nn_108, p_bs, p_rq0, p_rq1, p_rz0, p_rz1, p_us, p_un, p_uj, ↓reduceIte, r1', l12', p_sub1', t_b0]
        have q' := t_QEt b2' (t_QEg hE1'.2.2.2.2 r3')
        cases b'
        · exact ⟨true, _, rfl, fun hb' => by show t_b true = 1 - v' (t_rh I'); rw [← r2' hb']; decide, q'⟩
        · exact ⟨false, _, rfl, fun hb' => by show t_b false = 1 - v' (t_rh I'); rw [← r2' hb']; decide, q'⟩
  · rw [if_neg h33'] at hp2'
    by_cases h40' : t_is β n' (t_sk β n' e') 40 = true
    · rw [if_pos h40'] at hp2'
      have hlt' := t_is1 h40'
      rw [hp2']
      simp only [h33', h40', ↓reduceIte, hG', p_ob (sh_87 hB'), Bool.false_eq_true]
      rcases hin' with ⟨rfl, rfl⟩ | ⟨hd6', U', C', rfl, ⟨a0', hgr'⟩, hUr', hCr'⟩
      · simp only [↓reduceIte, p_bs, p_rz0]
        exact ⟨false, _, rfl, t_QDt b2' (t_QDx (t_QEx (t_QEs b2'.2.2)))⟩
      · have hne' : ¬ d' = 6 := by omega
        have hEg' := t_ENg hE1' hlt'
        have hr' := hCr' _ (t_sk β n' e' + 1) hSg' hEg'
        have hgr' := (hgr' (t_sk β n' e' + 1) (by omega)).2
        simp only [hne', ↓reduceIte, p_bs, show ((1 : Int32) = 0) = False from by decide, show ((1 : Nat) = 0) = False from by decide, p_ob (sh_87 hB')]
        cases hs' : C' (t_sk β n' e' + 1) with
        | inl x' =>
          rw [hs'] at hr' hgr'
          obtain ⟨b', J3', r1', r2'⟩ := hr'
          have hxn' : ¬ J3' 87 11 = -1 := by rw [r2'.2.2]; exact p_of1 x' (by have := hgr'.2; omega)
          simp (disch := omega) only [↓ce_87 hB', rf_87 hB', ↓nn_31, ↓nn_33, ↓nn_89, ↓nn_90, ↓nn_91, ↓nn_92, ↓nn_93, ↓nn_94, ↓nn_95, ↓nn_96, ↓nn_97, ↓nn_98, ↓nn_99, ↓nn_100, ↓nn_101, ↓nn_102, ↓nn_103, ↓nn_104, ↓nn_105, ↓nn_106, ↓nn_107, ↓nn_108, p_bs, p_rq0, p_rq1, p_rz0, p_rz1, p_us, p_un, p_uj, ↓reduceIte, r1', s_takesN hB' hxn']
          exact ⟨false, J3', rfl, t_QDt b2' (t_QDg r2')⟩
        | inr z' =>
          obtain ⟨x', c', v'⟩ := z'
          rw [hs'] at hr' hgr'
          obtain ⟨b', J3', r1', r2', r3'⟩ := hr'
          rw [t_rhg, t_rhq b2'] at r2'
          have hE3' := t_ENq hEg' r3' hgr'.2.1
          rcases s_takes hB' hE3'.1 hE3'.2.1 hgr'.2.1 hE3'.2.2.2.1 41 (by decide) with ⟨u1', J4', u2', u3'⟩ | ⟨u1', J4', u2', u3'⟩
          · have u2'' : F_X12_takes 87 41 (J3', X') = some (0, (J4', X')) := u2'
            simp (disch := omega) only [↓ce_87 hB', rf_87 hB', ↓nn_31, ↓nn_33, ↓nn_89, ↓nn_90, ↓nn_91, ↓nn_92, ↓nn_93, ↓nn_94, ↓nn_95, ↓nn_96, ↓nn_97, ↓nn_98, ↓nn_99, ↓nn_100, ↓nn_101, ↓nn_102, ↓nn_103, ↓nn_104, ↓nn_105, ↓nn_106, ↓nn_107, ↓nn_108, p_bs, p_rq0, p_rq1, p_rz0, p_rz1, p_us, p_un, p_uj, ↓reduceIte, r1', u2'']
            rw [u1']
            simp only [Bool.false_eq_true, ↓reduceIte]
            exact ⟨false, J4', rfl, t_QDt b2' (t_QDg (t_QDt r3' (t_QDx u3')))⟩
          · have u2'' : F_X12_takes 87 41 (J3', X') = some (1, (J4', X')) := u2'
            have l12' : J4' 87 12 = Int32.ofNat (d' + 1) := by rw [u3'.2.1 12 (by decide)]; exact hE3'.2.2.2.2
            simp (disch := omega) only [↓ce_87 hB', rf_87 hB', ↓nn_31, ↓nn_33, ↓nn_89, ↓nn_90, ↓nn_91, ↓nn_92, ↓nn_93, ↓nn_94, ↓nn_95, ↓nn_96, ↓nn_97, ↓nn_98, ↓nn_99, ↓nn_100, ↓nn_101, ↓nn_102, ↓nn_103, ↓nn_104, ↓nn_105, ↓nn_106, ↓nn_107, ↓nn_108, p_bs, p_rq0, p_rq1, p_rz0, p_rz1, p_us, p_un, p_uj, ↓reduceIte, r1', u2'', show ((1 : Int32) = 0) = False from by decide, l12', p_sub1', t_bz]
            rw [u1']
            simp only [↓reduceIte]
            exact ⟨b', _, rfl, r2', t_QEt b2' (t_QEg hE1'.2.2.2.2 (t_QEt r3' u3'))⟩
    · rw [if_neg h40'] at hp2'
      rw [hp2']
      simp only [h33', h40', ↓reduceIte, p_ob (sh_87 hB')]
      have hr' := hA' J1' (t_sk β n' e') hS1' hE1'
      have hgs' := hg' (t_sk β n' e') hU'
      unfold F_X12_compares
      simp only [↓reduceIte, p_ob (sh_87 hB')]
      cases hs' : S' (t_sk β n' e') with
      | inl x' =>
        rw [hs'] at hr' hgs'
        obtain ⟨u', J3', r1', r2'⟩ := hr'
        have hxn' : ¬ J3' 87 11 = -1 := by rw [r2'.2.2]; exact p_of1 x' (by have := hgs'.2; omega)
        simp only [r1', p_bs, s_mcmpN hB' hxn', p_rz0]
        exact ⟨false, J3', rfl, t_QDt b2' r2'⟩
      | inr z' =>
        obtain ⟨x', c', v'⟩ := z'
        rw [hs'] at hr' hgs'
        obtain ⟨u', J3', r1', r2', r3'⟩ := hr'
        have q3' := t_QEt b2' r3'
        have hS3' : p_S J3' := fun k' hk' => by rw [q3'.1 k' (by omega)]; exact hS' k' hk'
        have hc' := s_mcmp hB' hS3' hg' hA' (t_ENq hE' q3' hgs'.2.1) c' v' u' (fun hb' => by
          have := r2' (by rw [t_rhq b2']; rw [t_rhq q3'] at hb'; exact hb')
          rw [t_rhq b2'] at this
          rw [t_rhq q3']
          exact this)
        have hc'' := t_MRbt q3' hc'
        simp only [r1', p_bs]
        generalize t_cmp β n' S' x' c' v' = r' at hc'' ⊢
        cases r' with
        | inl y' =>
          obtain ⟨b', K', y1', y2'⟩ := hc''
          simp only [y1', p_bs, t_bz]
          exact ⟨b', K', rfl, y2'⟩
        | inr z' =>
          obtain ⟨y', cc', vv'⟩ := z'
          obtain ⟨b', K', y1', y2'⟩ := hc''
          simp only [y1', p_bs, t_bz]
          exact ⟨b', K', rfl, y2'⟩
theorem s_mpartN (hB' : p_B X') {rec'' : Nat → Nat → Int32 → Int32 → q_Mem → Option (Int32 × q_Mem)} (h' : ¬ I' 87 11 = -1) (b' : Bool) : J_X12_part_17 rec'' 87 (t_b b') (I', X') = some (t_b b', (I', X')) := by
  have hb' : B_X12_part_18 rec'' 87 (t_b b') (I', X') = some (.inr (t_b b', (I', X'))) := by
    unfold B_X12_part_18
    simp (disch := omega) only [↓ce_87 hB', rf_87 hB', ↓nn_31, ↓nn_33, ↓nn_89, ↓nn_90, ↓nn_91, ↓nn_92, ↓nn_93, ↓nn_94, ↓nn_95, ↓nn_96, ↓nn_97, ↓nn_98, ↓nn_99, ↓nn_100, ↓nn_101, ↓nn_102, ↓nn_103, ↓nn_104, ↓nn_105, ↓nn_106, ↓nn_107, ↓nn_108, p_bs, p_rq0, p_rq1, p_rz0, p_rz1, p_us, p_un, p_uj, ↓reduceIte, h']
  unfold J_X12_part_17
  rw [p_fu, p_lpE (e' := (t_b b', (I', X'))) hb']
  simp only [p_bs, t_bz]
theorem s_mpartL (hB' : p_B X') {J1' : p_I} {rec'' : Nat → Nat → Int32 → Int32 → q_Mem → Option (Int32 × q_Mem)} {U' : t_Bg → Nat → t_R} {a' : Nat} (hg' : ∀ e', e' ≤ n' → t_GR n' a' e' 0 True (U' none e')) (hA' : ∀ I' e', p_S I' → t_EN β n' tc' bg' X' I' e' d' → t_MRb X' I' (rec'' 2 87 0 0 (I', X')) (U' none e'))
    (hE' : t_EN β n' tc' bg' X' I' e' d') (hS' : p_S I') {x0' : Nat} {c0' : List Int32} {v0' : t_V} {b0' : Bool} (hx0' : x0' ≤ n') (r3' : t_QE I' x0' J1') (r2' : t_Lb (t_rh I') → t_b b0' = v0' (t_rh I')) : t_MRb X' I' (J_X12_part_17 rec'' 87 (t_b b0') (J1', X')) (t_lpU β n' U' 38 (-14) 240 x0' c0' v0') := by
  obtain ⟨hR', he', hen', h11', h12'⟩ := id hE'
  have hn' := hR'.2.2.2.2.1
  have hβ := hR'.2.2.2.2.2.2
  obtain ⟨z', h1', b', J', rfl, h2'⟩ := p_lp (fun z' => B_X12_part_18 rec'' 87 z'.1 z'.2)
    (fun i' z' => (∃ J' e1' c' b' vv', z' = (t_b b', (J', X')) ∧ t_QE I' e1' J' ∧ e1' ≤ n' ∧ i' ≤ e1' ∧ (t_Lb (t_rh I') → t_b b' = vv' (t_rh I')) ∧ t_lpU β n' U' 38 (-14) (240 - i') e1' c' vv' = t_lpU β n' U' 38 (-14) 240 x0' c0' v0' ∧ i' < 240) ∨
      (∃ J' x' b', z' = (t_b b', (J', X')) ∧ t_lpU β n' U' 38 (-14) 240 x0' c0' v0' = .inl x' ∧ x' ≤ n' ∧ t_QD I' x' J'))
    (fun z' => ∃ b' J', z' = (t_b b', (J', X')) ∧ ((∃ x', t_lpU β n' U' 38 (-14) 240 x0' c0' v0' = .inl x' ∧ t_QD I' x' J') ∨ (∃ x' c' vv', t_lpU β n' U' 38 (-14) 240 x0' c0' v0' = .inr (x', c', vv') ∧ (t_Lb (t_rh I') → t_b b' = vv' (t_rh I')) ∧ t_QE I' x' J'))) 240 (by
      rintro i' z' hi' (⟨J', e1', c', b', vv', rfl, j1', j2', j3', j4', j5', j6'⟩ | ⟨J', x', b', rfl, j1', j2', j3'⟩)
      · have hE1' := t_ENq hE' j1' j2'
        have hL' := t_skL β n' e1'
        have hU' := t_skU β n' e1' j2'
        rw [show 240 - i' = (240 - (i' + 1)) + 1 by omega, t_lpU] at j5'
        obtain ⟨J2', b1', b2'⟩ := s_look hB' hE1'.1 hE1'.2.1 j2'
        have q2' := t_QEt j1' b2'
        have g11' : J' 87 11 = -1 := hE1'.2.2.2.1
        unfold B_X12_part_18 J_X12_part_64_18 J_X12_part_65_18
        rw [show (38 : Int32) = Int32.ofNat 38 from rfl]
        simp (disch := omega) only [↓ce_87 hB', rf_87 hB', ↓nn_31, ↓nn_33, ↓nn_89, ↓nn_90, ↓nn_91, ↓nn_92, ↓nn_93, ↓nn_94, ↓nn_95, ↓nn_96, ↓nn_97, ↓nn_98, ↓nn_99, ↓nn_100, ↓nn_101, ↓nn_102, ↓nn_103, ↓nn_104, ↓nn_105, ↓nn_106, ↓nn_107, ↓nn_108, p_bs, p_rq0, p_rq1, p_rz0, p_rz1, p_us, p_un, p_uj, ↓reduceIte, g11', b1', t_sgE2 hβ _ _ (show (38 : Nat) < 256 by decide), t_isE]
        by_cases hsg' : t_is β n' (t_sk β n' e1') 38 = true
        · left
          rw [if_pos hsg'] at j5'
          have p1' := t_is1 hsg'
          have qk' := t_QEu (e'' := t_sk β n' e1' + 1) q2'
          have hEk' := t_ENq hE' qk' (by omega)
          have hSk' : p_S (q_u2 J2' 87 10 (Int32.ofNat (t_sk β n' e1' + 1))) := fun k' hk' => by rw [qk'.1 k' (by omega)]; exact hS' k' hk'
          have hr2' := hA' _ (t_sk β n' e1' + 1) hSk' hEk'
          have hg2' := hg' (t_sk β n' e1' + 1) (by omega)
          have hrho : t_rh (q_u2 J2' 87 10 (Int32.ofNat (t_sk β n' e1' + 1))) = t_rh I' := t_rhq qk'
          simp (disch := omega) only [↓ce_87 hB', rf_87 hB', ↓nn_31, ↓nn_33, ↓nn_89, ↓nn_90, ↓nn_91, ↓nn_92, ↓nn_93, ↓nn_94, ↓nn_95, ↓nn_96, ↓nn_97, ↓nn_98, ↓nn_99, ↓nn_100, ↓nn_101, ↓nn_102, ↓nn_103, ↓nn_104, ↓nn_105, ↓nn_106, ↓nn_107, ↓nn_108, p_bs, p_rq0, p_rq1, p_rz0, p_rz1, p_us, p_un, p_uj, ↓reduceIte, hsg', b2'.2.2, p_ar, t_b0]
          cases hs2' : U' none (t_sk β n' e1' + 1) with
          | inl x' =>
            rw [hs2'] at hr2' hg2' j5'
            obtain ⟨bb', K2', m1', m2'⟩ := hr2'
            simp only [m1', p_bs, t_b0]
            refine ⟨(t_b (b' && bb'), (K2', X')), ?_, by omega, .inr ⟨K2', x', _, rfl, j5'.symm, hg2'.2, t_QDt qk' m2'⟩⟩
            cases b' <;> cases bb' <;> rfl
          | inr z2' =>
            obtain ⟨x', cc', v2'⟩ := z2'
            rw [hs2'] at hr2' hg2' j5'
            obtain ⟨bb', K2', m1', m2', m3'⟩ := hr2'
            obtain ⟨n1', n2', n3', n4', n5'⟩ := hg2'
            rw [hrho] at m2'
            simp only [m1', p_bs, t_b0]
            refine ⟨(t_b (b' && bb'), (K2', X')), ?_, by omega, .inl ⟨K2', x', _, _, _, rfl, t_QEt qk' m3', n2', by omega, fun hb' => ?_, j5', by omega⟩⟩
            · cases b' <;> cases bb' <;> rfl
            · show _ = t_jn (-14) (vv' (t_rh I')) (v2' (t_rh I'))
              rw [← j4' hb', ← m2' hb', t_jnAnd]
        · right
          rw [if_neg hsg'] at j5'
          simp only [hsg', ↓reduceIte]
          exact ⟨_, rfl, b', J2', rfl, .inr ⟨_, c', vv', j5'.symm, j4', q2'⟩⟩
      · right
        have hxn' : ¬ J' 87 11 = -1 := by rw [j3'.2.2]; exact p_of1 x' (by omega)
        unfold B_X12_part_18
        simp (disch := omega) only [↓ce_87 hB', rf_87 hB', ↓nn_31, ↓nn_33, ↓nn_89, ↓nn_90, ↓nn_91, ↓nn_92, ↓nn_93, ↓nn_94, ↓nn_95, ↓nn_96, ↓nn_97, ↓nn_98, ↓nn_99, ↓nn_100, ↓nn_101, ↓nn_102, ↓nn_103, ↓nn_104, ↓nn_105, ↓nn_106, ↓nn_107, ↓nn_108, p_bs, p_rq0, p_rq1, p_rz0, p_rz1, p_us, p_un, p_uj, ↓reduceIte, hxn']
        exact ⟨_, rfl, b', J', rfl, .inl ⟨x', j1', j3'⟩⟩) 240 0 q_fu (t_b b0', (J1', X')) (by omega) (by unfold q_fu; omega) (.inl ⟨J1', x0', c0', b0', v0', rfl, r3', hx0', by omega, r2', rfl, by omega⟩)
  unfold J_X12_part_17
  rw [h1']
  simp only [p_bs, t_bz]
  rcases h2' with ⟨x', q1', q3'⟩ | ⟨x', c', v', q1', q2', q3'⟩
  · rw [q1']
    exact ⟨b', J', rfl, q3'⟩
  · rw [q1']
    exact ⟨b', J', rfl, q2', q3'⟩
theorem s_mcondN (hB' : p_B X') {rec'' : Nat → Nat → Int32 → Int32 → q_Mem → Option (Int32 × q_Mem)} (h' : ¬ I' 87 11 = -1) (b' : Bool) : (q_lp (fun s' => B_X12_condition_7 rec'' 87 s'.1 s'.2) q_fu (t_b b', (I', X'))).bind (fun e10' => match e10' with | (w11', M12') => q_rz w11' M12') = some (t_b b', (I', X')) := by
  have hb' : B_X12_condition_7 rec'' 87 (t_b b') (I', X') = some (.inr (t_b b', (I', X'))) := by
    unfold B_X12_condition_7
    simp (disch := omega) only [↓ce_87 hB', rf_87 hB', ↓nn_31, ↓nn_33, ↓nn_89, ↓nn_90, ↓nn_91, ↓nn_92, ↓nn_93, ↓nn_94, ↓nn_95, ↓nn_96, ↓nn_97, ↓nn_98, ↓nn_99, ↓nn_100, ↓nn_101, ↓nn_102, ↓nn_103, ↓nn_104, ↓nn_105, ↓nn_106, ↓nn_107, ↓nn_108, p_bs, p_rq0, p_rq1, p_rz0, p_rz1, p_us, p_un, p_uj, ↓reduceIte, h']
  skip
  rw [p_fu, p_lpE (e' := (t_b b', (I', X'))) hb']
  simp only [p_bs, t_bz]
theorem s_mcondL (hB' : p_B X') {J1' : p_I} {rec'' : Nat → Nat → Int32 → Int32 → q_Mem → Option (Int32 × q_Mem)} {U' : t_Bg → Nat → t_R} {a' : Nat} (hg' : ∀ e', e' ≤ n' → t_GR n' a' e' 0 True (U' none e')) (hA' : ∀ I' e', p_S I' → t_EN β n' tc' bg' X' I' e' d' → t_MRb X' I' (rec'' 1 87 0 0 (I', X')) (U' none e'))
    (hE' : t_EN β n' tc' bg' X' I' e' d') (hS' : p_S I') {x0' : Nat} {c0' : List Int32} {v0' : t_V} {b0' : Bool} (hx0' : x0' ≤ n') (r3' : t_QE I' x0' J1') (r2' : t_Lb (t_rh I') → t_b b0' = v0' (t_rh I')) : t_MRb X' I' ((q_lp (fun s' => B_X12_condition_7 rec'' 87 s'.1 s'.2) q_fu (t_b b0', (J1', X'))).bind (fun e10' => match e10' with | (w11', M12') => q_rz w11' M12')) (t_lpU β n' U' 124 (-15) 240 x0' c0' v0') := by
  obtain ⟨hR', he', hen', h11', h12'⟩ := id hE'
  have hn' := hR'.2.2.2.2.1
  have hβ := hR'.2.2.2.2.2.2
  obtain ⟨z', h1', b', J', rfl, h2'⟩ := p_lp (fun z' => B_X12_condition_7 rec'' 87 z'.1 z'.2)
    (fun i' z' => (∃ J' e1' c' b' vv', z' = (t_b b', (J', X')) ∧ t_QE I' e1' J' ∧ e1' ≤ n' ∧ i' ≤ e1' ∧ (t_Lb (t_rh I') → t_b b' = vv' (t_rh I')) ∧ t_lpU β n' U' 124 (-15) (240 - i') e1' c' vv' = t_lpU β n' U' 124 (-15) 240 x0' c0' v0' ∧ i' < 240) ∨
      (∃ J' x' b', z' = (t_b b', (J', X')) ∧ t_lpU β n' U' 124 (-15) 240 x0' c0' v0' = .inl x' ∧ x' ≤ n' ∧ t_QD I' x' J'))
    (fun z' => ∃ b' J', z' = (t_b b', (J', X')) ∧ ((∃ x', t_lpU β n' U' 124 (-15) 240 x0' c0' v0' = .inl x' ∧ t_QD I' x' J') ∨ (∃ x' c' vv', t_lpU β n' U' 124 (-15) 240 x0' c0' v0' = .inr (x', c', vv') ∧ (t_Lb (t_rh I') → t_b b' = vv' (t_rh I')) ∧ t_QE I' x' J'))) 240 (by
      rintro i' z' hi' (⟨J', e1', c', b', vv', rfl, j1', j2', j3', j4', j5', j6'⟩ | ⟨J', x', b', rfl, j1', j2', j3'⟩)
      · have hE1' := t_ENq hE' j1' j2'
        have hL' := t_skL β n' e1'
        have hU' := t_skU β n' e1' j2'
        rw [show 240 - i' = (240 - (i' + 1)) + 1 by omega, t_lpU] at j5'
        obtain ⟨J2', b1', b2'⟩ := s_look hB' hE1'.1 hE1'.2.1 j2'
        have q2' := t_QEt j1' b2'
        have g11' : J' 87 11 = -1 := hE1'.2.2.2.1
        unfold B_X12_condition_7 J_X12_condition_51_7 J_X12_condition_56_7
        rw [show (124 : Int32) = Int32.ofNat 124 from rfl]
        simp (disch := omega) only [↓ce_87 hB', rf_87 hB', ↓nn_31, ↓nn_33, ↓nn_89, ↓nn_90, ↓nn_91, ↓nn_92, ↓nn_93, ↓nn_94, ↓nn_95, ↓nn_96, ↓nn_97, ↓nn_98, ↓nn_99, ↓nn_100, ↓nn_101, ↓nn_102, ↓nn_103, ↓nn_104, ↓nn_105, ↓nn_106, ↓nn_107, ↓nn_108, p_bs, p_rq0, p_rq1, p_rz0, p_rz1, p_us, p_un, p_uj, ↓reduceIte, g11', b1', t_sgE2 hβ _ _ (show (124 : Nat) < 256 by decide), t_isE]
        by_cases hsg' : t_is β n' (t_sk β n' e1') 124 = true
        · left
          rw [if_pos hsg'] at j5'
          have p1' := t_is1 hsg'
          have qk' := t_QEu (e'' := t_sk β n' e1' + 1) q2'
          have hEk' := t_ENq hE' qk' (by omega)
          have hSk' : p_S (q_u2 J2' 87 10 (Int32.ofNat (t_sk β n' e1' + 1))) := fun k' hk' => by rw [qk'.1 k' (by omega)]; exact hS' k' hk'
          have hr2' := hA' _ (t_sk β n' e1' + 1) hSk' hEk'
          have hg2' := hg' (t_sk β n' e1' + 1) (by omega)
          have hrho : t_rh (q_u2 J2' 87 10 (Int32.ofNat (t_sk β n' e1' + 1))) = t_rh I' := t_rhq qk'
          simp (disch := omega) only [↓ce_87 hB', rf_87 hB', ↓nn_31, ↓nn_33, ↓nn_89, ↓nn_90, ↓nn_91, ↓nn_92, ↓nn_93, ↓nn_94, ↓nn_95, ↓nn_96, ↓nn_97, ↓nn_98, ↓nn_99, ↓nn_100, ↓nn_101, ↓nn_102, ↓nn_103, ↓nn_104, ↓nn_105, ↓nn_106, ↓nn_107, ↓nn_108, p_bs, p_rq0, p_rq1, p_rz0, p_rz1, p_us, p_un, p_uj, ↓reduceIte, hsg', b2'.2.2, p_ar, t_b0]
          cases hs2' : U' none (t_sk β n' e1' + 1) with
          | inl x' =>
            rw [hs2'] at hr2' hg2' j5'
            obtain ⟨bb', K2', m1', m2'⟩ := hr2'
            simp only [m1', p_bs, t_b0]
            refine ⟨(t_b (b' || bb'), (K2', X')), ?_, by omega, .inr ⟨K2', x', _, rfl, j5'.symm, hg2'.2, t_QDt qk' m2'⟩⟩
            cases b' <;> cases bb' <;> rfl
          | inr z2' =>
            obtain ⟨x', cc', v2'⟩ := z2'
            rw [hs2'] at hr2' hg2' j5'
            obtain ⟨bb', K2', m1', m2', m3'⟩ := hr2'
            obtain ⟨n1', n2', n3', n4', n5'⟩ := hg2'
            rw [hrho] at m2'
            simp only [m1', p_bs, t_b0]
            refine ⟨(t_b (b' || bb'), (K2', X')), ?_, by omega, .inl ⟨K2', x', _, _, _, rfl, t_QEt qk' m3', n2', by omega, fun hb' => ?_, j5', by omega⟩⟩
            · cases b' <;> cases bb' <;> rfl
            · show _ = t_jn (-15) (vv' (t_rh I')) (v2' (t_rh I'))
              rw [← j4' hb', ← m2' hb', t_jnOr]
        · right
          rw [if_neg hsg'] at j5'
          simp only [hsg', ↓reduceIte]
          exact ⟨_, rfl, b', J2', rfl, .inr ⟨_, c', vv', j5'.symm, j4', q2'⟩⟩
      · right
        have hxn' : ¬ J' 87 11 = -1 := by rw [j3'.2.2]; exact p_of1 x' (by omega)
        unfold B_X12_condition_7
        simp (disch := omega) only [↓ce_87 hB', rf_87 hB', ↓nn_31, ↓nn_33, ↓nn_89, ↓nn_90, ↓nn_91, ↓nn_92, ↓nn_93, ↓nn_94, ↓nn_95, ↓nn_96, ↓nn_97, ↓nn_98, ↓nn_99, ↓nn_100, ↓nn_101, ↓nn_102, ↓nn_103, ↓nn_104, ↓nn_105, ↓nn_106, ↓nn_107, ↓nn_108, p_bs, p_rq0, p_rq1, p_rz0, p_rz1, p_us, p_un, p_uj, ↓reduceIte, hxn']
        exact ⟨_, rfl, b', J', rfl, .inl ⟨x', j1', j3'⟩⟩) 240 0 q_fu (t_b b0', (J1', X')) (by omega) (by unfold q_fu; omega) (.inl ⟨J1', x0', c0', b0', v0', rfl, r3', hx0', by omega, r2', rfl, by omega⟩)
  skip
  rw [h1']
  simp only [p_bs, t_bz]
  rcases h2' with ⟨x', q1', q3'⟩ | ⟨x', c', v', q1', q2', q3'⟩
  · rw [q1']
    exact ⟨b', J', rfl, q3'⟩
  · rw [q1']
    exact ⟨b', J', rfl, q2', q3'⟩
/-- part and condition, begun or not -/
def t_MBb (X' : p_X) (β : Nat → Nat) (n' tc' bg' d' k' : Nat) (G' : Int32 → Int32 → q_Mem → Option (Int32 × q_Mem)) (U' : t_Bg → Nat → t_R) : Prop := ∀ b' l2' I' e', p_S I' → t_EN β n' tc' bg' X' I' e' d' → t_GB n' (2 * k' + 3) e' b' → (∀ c' v', b' = some (c', v') → t_Lb (t_rh I') → l2' = v' (t_rh I')) → t_MRb X' I' (G' (t_bi b') l2' (I', X')) (U' b' e')
theorem s_mpart (hB' : p_B X') {rec'' : Nat → Nat → Int32 → Int32 → q_Mem → Option (Int32 × q_Mem)} {k' : Nat} (hk' : k' ≤ 6) (hd' : d' = 6 - k') (hA' : ∀ I' e', p_S I' → t_EN β n' tc' bg' X' I' e' d' → t_MRb X' I' (rec'' 2 87 0 0 (I', X')) (t_unt β n' k' none e')) : t_MBb X' β n' tc' bg' d' k' (fun b' l' M' => F_X12_part rec'' 87 b' l' M') (t_lpB β n' (t_unt β n' k') 38 (-14)) := by
  intro b' l2' I' e' hS' hE' hb' hl'
  have hn' := hE'.1.2.2.2.2.1
  have hgU' : ∀ e', e' ≤ n' → t_GR n' (2 * k' + 4) e' 0 True (t_unt β n' k' none e') := fun e' he' => t_GRunt k' none e' he' trivial
  have hg0' := t_GRunt (β := β) k' b' e' hE'.2.2.1 hb'
  have fin' : ∀ (o' : Option (Int32 × q_Mem)) (r' : t_R), t_GR n' (2 * k' + 4) e' (t_bl b') True r' → t_MRb X' I' o' r' → t_MRb X' I' (o'.bind (fun x' => J_X12_part_17 rec'' 87 x'.1 x'.2)) (match r' with | .inl x' => .inl x' | .inr (x', c', v') => t_lpU β n' (t_unt β n' k') 38 (-14) 240 x' c' v') := by
    intro o' r' hgr' hr'
    cases r' with
    | inl x' =>
      obtain ⟨bb', J1', r1', r2'⟩ := hr'
      have hxn' : ¬ J1' 87 11 = -1 := by rw [r2'.2.2]; exact p_of1 x' (by have := hgr'.2; omega)
      rw [r1']
      simp only [p_bs, s_mpartN hB' hxn']
      exact ⟨bb', J1', rfl, r2'⟩
    | inr z' =>
      obtain ⟨x', c', v'⟩ := z'
      obtain ⟨bb', J1', r1', r2', r3'⟩ := hr'
      rw [r1']
      simp only [p_bs]
      exact s_mpartL hB' hgU' hA' hE' hS' hgr'.2.1 r3' r2'
  cases b' with
  | none =>
    have hr' := hA' I' e' hS' hE'
    show t_MRb X' I' (F_X12_part rec'' 87 0 l2' (I', X')) (t_lpB β n' (t_unt β n' k') 38 (-14) none e')
    unfold F_X12_part t_lpB
    simp only [↓reduceIte, p_ob (sh_87 hB')]
    exact fin' _ _ hg0' hr'
  | some z' =>
    obtain ⟨c', v'⟩ := z'
    have hu' : t_unt β n' k' (some (c', v')) e' = t_cmp β n' (t_sum β n' k') e' c' v' := by cases k' <;> rfl
    have hr' := s_mcmp hB' hS' (fun e' he' => t_GRsum (β := β) k' e' he') (fun I' e' hS' hE' => s_mRsum hB' k' hk' 60 (by omega) I' e' hS' (by rw [← hd']; exact hE')) hE' c' v' l2' (hl' c' v' rfl)
    rw [← hu'] at hr'
    show t_MRb X' I' (F_X12_part rec'' 87 1 l2' (I', X')) (t_lpB β n' (t_unt β n' k') 38 (-14) (some (c', v')) e')
    unfold F_X12_part F_X12_compares t_lpB
    simp only [show ((1 : Int32) = 0) = False from by decide, ↓reduceIte, p_ob (sh_87 hB')]
    exact fin' _ _ hg0' hr'
theorem s_mcond (hB' : p_B X') {rec'' : Nat → Nat → Int32 → Int32 → q_Mem → Option (Int32 × q_Mem)} {k' : Nat} (hA' : t_MBb X' β n' tc' bg' d' k' (fun b' l' M' => rec'' 1 87 b' l' M') (t_lpB β n' (t_unt β n' k') 38 (-14))) : t_MBb X' β n' tc' bg' d' k' (fun b' l' M' => F_X12_condition rec'' 87 b' l' M') (t_cndO β n' (t_unt β n' k')) := by
  intro b' l2' I' e' hS' hE' hb' hl'
  have hn' := hE'.1.2.2.2.2.1
  have hgr' := t_GRlpB (β := β) (U' := t_unt β n' k') (sg' := 38) (nb' := 2 * k' + 3) (fun b' e' he' hb' => t_GRunt k' b' e' he' hb') (.inl rfl) b' e' hE'.2.2.1 hb'
  have hgU' : ∀ e', e' ≤ n' → t_GR n' (2 * k' + 4 + 1) e' 0 True (t_lpB β n' (t_unt β n' k') 38 (-14) none e') := fun e' he' => t_GRlpB (nb' := 2 * k' + 3) (fun b' e' he' hb' => t_GRunt k' b' e' he' hb') (.inl rfl) none e' he' trivial
  have hr' : t_MRb X' I' (rec'' 1 87 (t_bi b') l2' (I', X')) (t_lpB β n' (t_unt β n' k') 38 (-14) b' e') := hA' b' l2' I' e' hS' hE' hb' hl'
  show t_MRb X' I' (F_X12_condition rec'' 87 (t_bi b') l2' (I', X')) (t_lpB β n' (t_lpB β n' (t_unt β n' k') 38 (-14)) 124 (-15) b' e')
  rw [t_lpB]
  unfold F_X12_condition
  simp only [p_ob (sh_87 hB')]
  generalize t_lpB β n' (t_unt β n' k') 38 (-14) b' e' = r' at hr' hgr' ⊢
  cases r' with
  | inl x' =>
    obtain ⟨bb', J1', r1', r2'⟩ := hr'
    have hxn' : ¬ J1' 87 11 = -1 := by rw [r2'.2.2]; exact p_of1 x' (by have := hgr'.2; omega)
    have hN' := s_mcondN (rec'' := rec'') hB' hxn' bb'
    rw [r1']
    simp only [p_bs]
    rw [hN']
    exact ⟨bb', J1', rfl, r2'⟩
  | inr z' =>
    obtain ⟨x', c', v'⟩ := z'
    obtain ⟨bb', J1', r1', r2', r3'⟩ := hr'
    rw [r1']
    simp only [p_bs]
    exact s_mcondL hB' hgU' (fun I' e' hS' hE' => hA' none 0 I' e' hS' hE' trivial (fun c' v' h' => by cases h')) hE' hS' hgr'.2.1 r3' r2'
theorem s_mRunit (hB' : p_B X') (k' : Nat) (hk' : k' ≤ 6) (f' : Nat) (hf' : 3 * k' + 1 ≤ f') : ∀ I' e', p_S I' → t_EN β n' tc' bg' X' I' e' (6 - k') → t_MRb X' I' (R_X12_condition f' 2 87 0 0 (I', X')) (t_unt β n' k' none e') := by
  induction k' generalizing f' with
  | zero =>
    obtain ⟨f', rfl⟩ : ∃ g', f' = g' + 1 := ⟨f' - 1, by omega⟩
    intro I' e' hS' hE'
    exact s_munit hB' hS' (by omega) (fun e' he' => t_GRsum 0 e' he') (fun I' e' hS' hE' => s_mRsum hB' 0 (by omega) 60 (by omega) I' e' hS' hE') (.inl ⟨rfl, rfl⟩) hE'
  | succ k' ih' =>
    obtain ⟨f', rfl⟩ : ∃ g', f' = g' + 1 + 1 + 1 + 1 := ⟨f' - 4, by omega⟩
    intro I' e' hS' hE'
    refine s_munit hB' hS' (by omega) (fun e' he' => t_GRsum (k' + 1) e' he') (fun I' e' hS' hE' => s_mRsum hB' (k' + 1) (by omega) 60 (by omega) I' e' hS' hE') (.inr ⟨by omega, t_unt β n' k' none, t_cndO β n' (t_unt β n' k') none, rfl, ⟨2 * k' + 6, fun e' he' => ⟨t_GRw (t_GRunt k' none e' he' trivial) (by omega), t_GRcnd k' none e' he' trivial⟩⟩, ?_, ?_⟩) hE'
    · intro I' e' hS' hE'
      rw [show 6 - (k' + 1) + 1 = 6 - k' by omega] at hE'
      exact ih' (by omega) (f' + 1 + 1 + 1) (by omega) I' e' hS' hE'
    · intro I' e' hS' hE'
      rw [show 6 - (k' + 1) + 1 = 6 - k' by omega] at hE'
      exact s_mcond hB' (rec'' := R_X12_condition (f' + 1 + 1)) (s_mpart hB' (by omega) rfl (fun I' e' hS' hE' => ih' (by omega) (f' + 1) (by omega) I' e' hS' hE')) none 0 I' e' hS' hE' trivial (fun c' v' h' => by cases h')
theorem s_mRcond (hB' : p_B X') : t_MBb X' β n' tc' bg' 0 6 (fun b' l' M' => R_X12_condition 60 0 87 b' l' M') (t_cndO β n' (t_unt β n' 6)) :=
  s_mcond hB' (rec'' := R_X12_condition 59) (s_mpart hB' (rec'' := R_X12_condition 58) (by omega) rfl (fun I' e' hS' hE' => s_mRunit hB' 6 (by omega) 58 (by omega) I' e' hS' hE'))
end PL'
