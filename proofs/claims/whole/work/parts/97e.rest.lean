/-! rests: both sides -/
theorem t_ctC {R' R'' : Nat → Bool} (n' : Nat) (h' : ∀ p', p' < n' → R' p' = R'' p') : t_ct R' n' = t_ct R'' n' := by
  induction n' with
  | zero => rfl
  | succ n' ih' => rw [t_ct, t_ct, ih' (fun p' hp' => h' p' (by omega)), h' n' (by omega)]
theorem t_fiC {P' P'' : Nat → Bool} (m' : Nat) : ∀ i', (∀ p', i' ≤ p' → p' < i' + m' → P' p' = P'' p') → t_fi P' m' i' = t_fi P'' m' i' := by
  induction m' with
  | zero => intro i' h'; rfl
  | succ m' ih' => intro i' h'; rw [t_fi, t_fi, h' i' (by omega) (by omega), ih' (i' + 1) (fun p' h1' h2' => h' p' (by omega) (by omega))]
theorem t_fiN {P' : Nat → Bool} (m' : Nat) : ∀ i', (∀ p', i' ≤ p' → p' < i' + m' → P' p' = false) → t_fi P' m' i' = none := by
  induction m' with
  | zero => intro i' h'; rfl
  | succ m' ih' => intro i' h'; rw [t_fi, h' i' (by omega) (by omega), ih' (i' + 1) (fun p' h1' h2' => h' p' (by omega) (by omega))]; rfl
theorem t_rpC {U' V' U'' V'' : Nat → Int32} (h' : ∀ p', p' < 16 → U' p' = U'' p' ∧ V' p' = V'' p') (p' : Nat) (hp' : p' < 16) : t_rp U' V' p' = t_rp U'' V'' p' := by
  have key' : ∀ q', q' < 4 → t_ok U' V' (p' / 4) (p' % 4) q' = t_ok U'' V'' (p' / 4) (p' % 4) q' := fun q' hq' => by
    unfold t_ok
    rw [(h' (4 * (p' / 4) + p' % 4) (by omega)).1, (h' (4 * (p' / 4) + p' % 4) (by omega)).2, (h' (4 * q' + p' % 4) (by omega)).1, (h' (4 * (p' / 4) + q') (by omega)).2]
  unfold t_rp t_rs
  simp only [t_al]
  rw [key' 0 (by omega), key' 1 (by omega), key' 2 (by omega), key' 3 (by omega)]
section PG'
variable {A' : v_A} {X' : p_X} {I' : p_I}
theorem m_rests (h' : v_V A' I' X') (a' b' l' : Int32) : ∃ r' I1' J' X1', F_X11_rests 36 a' b' l' (I', X') = some (r', (I1', X')) ∧ F_X12_rests 87 a' b' l' (I1', X') = some (r', (J', X1')) ∧ v_V A' J' X1' := by
  have hB' := h'.1
  obtain ⟨L', hLC', hLM'⟩ := v_law h'
  have hsc' := p_scN hLC'
  have hH' := h'.2.2.2.1
  have hng6' : t_ng A'.1 ≤ 6 := hH'.2.1.2.2.2.2.2.2.2
  have hp' := s_canPlay hB' hH'.2.1 a' b'
  have hm' : ∀ I1' : p_I, (∀ c', 73 ≤ c' → c' < 109 → I1' c' = I' c') → t_HM A'.1 (q_u2 I1' 87 0 0) := fun I1' f' => v_hm h' (by rw [p_uc _ _ _ _ _ (by decide), f' 92 (by decide) (by decide)]) (by rw [p_uc _ _ _ _ _ (by decide), f' 94 (by decide) (by decide)]) (by rw [p_uc _ _ _ _ _ (by decide), f' 96 (by decide) (by decide)]) (by rw [p_uj _ _ _ _ _ (by decide), f' 87 (by decide) (by decide)]) (by rw [p_uj _ _ _ _ _ (by decide), f' 87 (by decide) (by decide)])
  have h0' : ∀ I1' : p_I, (∀ c', 73 ≤ c' → c' < 109 → I1' c' = I' c') → F_X12_isGame 87 a' b' (q_u2 I1' 87 0 0, X') = some (t_b (t_pg A'.1 (I' 54) a' b')) := by
    intro I1' f'
    have hM1' := hm' I1' f'
    rcases v_t h' with ⟨hz', hR', hHW'⟩ | hz'
    · exact s_isGame hB' hM1' hng6' (by rw [p_uc _ _ _ _ _ (by decide), f' 100 (by decide) (by decide)]; exact hR'.2.1) a' b'
    · have h1' := s_isGuest hB' hM1' a'
      rw [(v_zf h' hz').2, t_inr0] at h1'
      unfold F_X12_isGame
      simp (disch := omega) only [↓ce_87 hB', rf_87 hB', ↓nn_31, ↓nn_33, ↓nn_89, ↓nn_90, ↓nn_91, ↓nn_92, ↓nn_93, ↓nn_94, ↓nn_95, ↓nn_96, ↓nn_97, ↓nn_98, ↓nn_99, ↓nn_100, ↓nn_101, ↓nn_102, ↓nn_103, ↓nn_104, ↓nn_105, ↓nn_106, ↓nn_107, ↓nn_108, p_bs, p_rq0, p_rq1, p_rz0, p_rz1, p_us, p_un, p_uj, ↓reduceIte, h1', t_b0]
      unfold t_pg
      rw [(v_zf h' hz').2, t_inr0]
      rfl
  have hI' := h0' I' (fun _ _ _ => rfl)
  cases g1' : t_pg A'.1 (I' 54) a' b'
  · refine ⟨-1, I', _, X', ?_, ?_, v_thr h'⟩
    · unfold F_X11_rests
      simp (disch := omega) only [↓ce_36 hB', rf_36 hB', ↓nn_38, ↓nn_40, ↓nn_45, ↓nn_50, ↓nn_52, ↓nn_53, ↓nn_54, ↓nn_56, ↓nn_58, ↓nn_64, ↓nn_67, ↓nn_68, ↓nn_84, p_bs, p_rq0, p_rq1, p_rz0, p_rz1, p_us, p_un, p_uj, ↓reduceIte, hp', g1', t_b0]
    · unfold F_X12_rests
      simp (disch := omega) only [↓ce_87 hB', rf_87 hB', ↓nn_31, ↓nn_33, ↓nn_89, ↓nn_90, ↓nn_91, ↓nn_92, ↓nn_93, ↓nn_94, ↓nn_95, ↓nn_96, ↓nn_97, ↓nn_98, ↓nn_99, ↓nn_100, ↓nn_101, ↓nn_102, ↓nn_103, ↓nn_104, ↓nn_105, ↓nn_106, ↓nn_107, ↓nn_108, p_bs, p_rq0, p_rq1, p_rz0, p_rz1, p_us, p_un, p_uj, ↓reduceIte, hI', g1', t_b0]
  · by_cases hl' : l' < -1
    · refine ⟨-1, I', _, X', ?_, ?_, v_thr h'⟩
      · unfold F_X11_rests
        simp (disch := omega) only [↓ce_36 hB', rf_36 hB', ↓nn_38, ↓nn_40, ↓nn_45, ↓nn_50, ↓nn_52, ↓nn_53, ↓nn_54, ↓nn_56, ↓nn_58, ↓nn_64, ↓nn_67, ↓nn_68, ↓nn_84, p_bs, p_rq0, p_rq1, p_rz0, p_rz1, p_us, p_un, p_uj, ↓reduceIte, hp', g1', t_b0, Bool.true_eq_false, hl']
      · unfold F_X12_rests
        simp (disch := omega) only [↓ce_87 hB', rf_87 hB', ↓nn_31, ↓nn_33, ↓nn_89, ↓nn_90, ↓nn_91, ↓nn_92, ↓nn_93, ↓nn_94, ↓nn_95, ↓nn_96, ↓nn_97, ↓nn_98, ↓nn_99, ↓nn_100, ↓nn_101, ↓nn_102, ↓nn_103, ↓nn_104, ↓nn_105, ↓nn_106, ↓nn_107, ↓nn_108, p_bs, p_rq0, p_rq1, p_rz0, p_rz1, p_us, p_un, p_uj, ↓reduceIte, hI', g1', t_b0, Bool.true_eq_false, hl']
    · have hra' : t_inr a' (t_ng A'.1) = true ∧ t_inr b' (t_ng A'.1) = true ∧ a' ≠ b' := by
        simp only [t_pg, Bool.and_eq_true, Bool.not_eq_true', decide_eq_false_iff_not] at g1'
        exact ⟨g1'.1.1.1.1, g1'.1.1.1.2, g1'.1.1.2⟩
      obtain ⟨r1', r2', r3'⟩ := hra'
      obtain ⟨a'', ha'', rfl⟩ := t_inrE (by omega) r1'
      obtain ⟨b'', hb'', rfl⟩ := t_inrE (by omega) r2'
      have hab' : a'' ≠ b'' := fun e' => r3' (by rw [e'])
      have hz' : A'.2.1 = true := by
        cases hz' : A'.2.1
        · have := (v_zf h' hz').2; omega
        · rfl
      have hHW' := hH'.2.2.2.1 hz'
      obtain ⟨w1', w2', w3', w4', w5', w6'⟩ := h'.2.2.2.2.1.1 hz'
      have ref' : ∀ (I1' : p_I) (S' : Nat → Nat → Int32), (∀ c', c' ≠ 63 → c' ≠ 64 → c' ≠ 65 → c' ≠ p_sc X' → c' ≠ 67 → c' ≠ 69 → c' ≠ 71 → c' ≠ 72 → I1' c' = I' c') → (∀ p', p' < 16 → ∀ j', j' < 31 → S' p' j' = I' 54 j') → ∃ J' u' R', R' = t_rp (fun p' => t_gm A'.1 L' (S' p') a'' b'' (p' / 4) (p' % 4) a'') (fun p' => t_gm A'.1 L' (S' p') a'' b'' (p' / 4) (p' % 4) b'') ∧ F_X12_rests 87 (Int32.ofNat a'') (Int32.ofNat b'') l' (I1', X') = some ((match t_fi (t_hit R' l') 16 0 with | some p' => Int32.ofNat (10 * (p' / 4) + p' % 4) | none => if l' = -1 then Int32.ofNat (t_ct R' 16) else -1), (J', p_T X' u')) ∧ v_V A' J' (p_T X' u') := by
        intro I1' S' f' hS'
        have f1' : ∀ c', 73 ≤ c' → c' < 109 → I1' c' = I' c' := fun c' z1' z2' => f' c' (by omega) (by omega) (by omega) (by omega) (by omega) (by omega) (by omega) (by omega)
        have hg2' := h0' I1' f1'
        have e100 : q_u2 I1' 87 0 0 100 = I' 100 := by rw [p_uc _ _ _ _ _ (by decide), f1' 100 (by decide) (by decide)]
        obtain ⟨J', u', d1', d2', d3', d4'⟩ := s_restsLp (I' := q_u2 I1' 87 0 0) (L' := L') hB' (fun c' hc' => by rw [p_uc _ _ _ _ _ (by omega), f' c' (by omega) (by omega) (by omega) (by omega) (by omega) (by omega) (by omega) (by omega)]; exact h'.2.1 c' hc') (hm' I1' f1') hHW' S' (fun p' hp' => ⟨t_WFa w1' (hS' p' hp'), by rw [e100]; exact t_RSa w2' (hS' p' hp') (fun _ _ => rfl), fun g' hg' => by rw [hS' p' hp' _ (by omega)]; exact w5' g' hg'⟩) (t_LMk hLM' (by rw [p_uj _ _ _ _ _ (by decide), f1' 87 (by decide) (by decide)]) (by rw [p_uc _ _ _ _ _ (by decide), f1' 89 (by decide) (by decide)]) (by rw [p_uc _ _ _ _ _ (by decide), f1' 90 (by decide) (by decide)])) (D' := A'.2.2.1) (fun p' hp' => by rw [hS' p' hp' 0 (by decide)]; exact w3') w4' ha'' hb'' hab' l'
        obtain ⟨z', k1', k2'⟩ := s_r71 (I' := J') (X' := p_T X' u') (p_BT hB' u') l' (R' := t_rp (t_e2 (J' 105)) (t_o2 (J' 105))) rfl
        have hRR' : ∀ p', p' < 16 → t_rp (t_e2 (J' 105)) (t_o2 (J' 105)) p' = t_rp (fun p' => t_gm A'.1 L' (S' p') a'' b'' (p' / 4) (p' % 4) a'') (fun p' => t_gm A'.1 L' (S' p') a'' b'' (p' / 4) (p' % 4) b'') p' := t_rpC (fun p' hp' => by
          unfold t_e2 t_o2
          rw [d4' (2 * p') (by omega), d4' (2 * p' + 1) (by omega), show 2 * p' / 2 = p' by omega, show (2 * p' + 1) / 2 = p' by omega, show 2 * p' / 8 = p' / 4 by omega, show (2 * p' + 1) / 8 = p' / 4 by omega, if_pos (by omega), if_neg (by omega)]
          exact ⟨rfl, rfl⟩)
        have hct' := t_ctC 16 hRR'
        have hfi' : t_fi (t_hit (t_rp (t_e2 (J' 105)) (t_o2 (J' 105))) l') 16 0 = t_fi (t_hit (t_rp (fun p' => t_gm A'.1 L' (S' p') a'' b'' (p' / 4) (p' % 4) a'') (fun p' => t_gm A'.1 L' (S' p') a'' b'' (p' / 4) (p' % 4) b'')) l') 16 0 := t_fiC 16 0 (fun p' h1' h2' => by
          unfold t_hit
          rw [hRR' p' (by omega), t_ctC p' (fun q' hq' => hRR' q' (by omega))])
        rw [hct', hfi'] at k2'
        refine ⟨J', u', _, rfl, ?_, v_ask2 h' f' (fun c' z1' z2' z3' z4' z5' => by rw [d2' c' z1' z2' z3' z4' z5', p_uc _ _ _ _ _ z1']) (fun j' z1' z2' => by rw [d3' j' z1', p_uj _ _ _ _ _ z2'])⟩
        unfold F_X12_rests
        simp (disch := omega) only [↓ce_87 hB', rf_87 hB', ↓nn_31, ↓nn_33, ↓nn_89, ↓nn_90, ↓nn_91, ↓nn_92, ↓nn_93, ↓nn_94, ↓nn_95, ↓nn_96, ↓nn_97, ↓nn_98, ↓nn_99, ↓nn_100, ↓nn_101, ↓nn_102, ↓nn_103, ↓nn_104, ↓nn_105, ↓nn_106, ↓nn_107, ↓nn_108, p_bs, p_rq0, p_rq1, p_rz0, p_rz1, p_us, p_un, p_uj, ↓reduceIte, hg2', g1', t_b0, Bool.true_eq_false, hl', d1', k1']
        rcases k2' with ⟨p', rfl, k2'⟩ | ⟨rfl, k2'⟩
        · rw [k2']
          show some (10 * Int32.ofNat (p' / 4) + Int32.ofNat (p' % 4), J', p_T X' u') = some (Int32.ofNat (10 * (p' / 4) + p' % 4), J', p_T X' u')
          rw [Int32.ofNat_add, Int32.ofNat_mul]
          rfl
        · rw [k2']
          by_cases e' : l' = -1
          · simp only [e', ↓reduceIte]
          · simp only [e', ↓reduceIte]
      by_cases h16' : l' < 16
      · obtain ⟨I1', S', b1', b2', b3'⟩ := s_playAll (I' := I') (L' := L') hB' hH'.2.1 hHW' hLC' w1' w5' w3' w4' (a' := a'') (b' := b'') (by omega) (by omega) hab'
        obtain ⟨J', u', R', c1', c2', c3'⟩ := ref' I1' S' b2' (fun p' hp' => (b3' p' hp').1)
        have hRR' : ∀ p', p' < 16 → t_rp (I1' 71) (I1' 72) p' = R' p' := fun p' hp' => by rw [c1']; exact t_rpC (fun p' hp' => ⟨(b3' p' hp').2.1, (b3' p' hp').2.2⟩) p' hp'
        have hct' := t_ctC 16 hRR'
        have hfi' : t_fi (t_hit (t_rp (I1' 71) (I1' 72)) l') 16 0 = t_fi (t_hit R' l') 16 0 := t_fiC 16 0 (fun p' h1' h2' => by
          unfold t_hit
          rw [hRR' p' (by omega), t_ctC p' (fun q' hq' => hRR' q' (by omega))])
        refine ⟨_, I1', J', p_T X' u', ?_, c2', c3'⟩
        have hc1' := s_restCount (I' := I1') hB'
        have hc2' := s_restAt (I' := I1') hB' l'
        rw [hct'] at hc1'
        rw [hfi'] at hc2'
        unfold F_X11_rests
        by_cases e' : l' = -1
        · have hn' : t_fi (t_hit R' l') 16 0 = none := t_fiN 16 0 (fun p' h1' h2' => by
            have : ¬ Int32.ofNat (t_ct R' p') = l' := by
              rw [e', p_ofN1 _ (by have := t_ctL R' p'; omega)]
              exact id
            simp [t_hit, this])
          rw [hn']
          simp (disch := omega) only [↓ce_36 hB', rf_36 hB', ↓ce_67 hB', rf_67 hB', ↓nn_38, ↓nn_40, ↓nn_45, ↓nn_50, ↓nn_52, ↓nn_53, ↓nn_54, ↓nn_56, ↓nn_58, ↓nn_64, ↓nn_67, ↓nn_68, ↓nn_69, ↓nn_71, ↓nn_72, ↓nn_73, ↓nn_84, p_bs, p_rq0, p_rq1, p_rz0, p_rz1, p_us, p_un, p_uj, ↓reduceIte, hp', g1', t_b0, Bool.true_eq_false, hl', h16', b1', e', hc1']
          simp only [e'] at hl' h16'
          simp [hl', h16']
        · simp (disch := omega) only [↓ce_36 hB', rf_36 hB', ↓ce_67 hB', rf_67 hB', ↓nn_38, ↓nn_40, ↓nn_45, ↓nn_50, ↓nn_52, ↓nn_53, ↓nn_54, ↓nn_56, ↓nn_58, ↓nn_64, ↓nn_67, ↓nn_68, ↓nn_69, ↓nn_71, ↓nn_72, ↓nn_73, ↓nn_84, p_bs, p_rq0, p_rq1, p_rz0, p_rz1, p_us, p_un, p_uj, ↓reduceIte, hp', g1', t_b0, Bool.true_eq_false, hl', h16', b1', e', hc2']
          cases t_fi (t_hit R' l') 16 0 <;> rfl
      · obtain ⟨J', u', R', c1', c2', c3'⟩ := ref' I' (fun _ => I' 54) (fun _ _ _ _ _ _ _ _ _ => rfl) (fun _ _ _ _ => rfl)
        have hn' : t_fi (t_hit R' l') 16 0 = none := t_fiN 16 0 (fun p' h1' h2' => by
          have : ¬ Int32.ofNat (t_ct R' p') = l' := by
            intro e'
            apply h16'
            rw [← e', show (16 : Int32) = Int32.ofNat 16 from rfl, p_lt _ 16 (by have := t_ctL R' p'; omega) (by decide)]
            have := t_ctL R' p'
            omega
          simp [t_hit, this])
        rw [hn'] at c2'
        have e' : l' ≠ -1 := by
          intro e'
          apply h16'
          rw [e']
          decide
        simp only [e', ↓reduceIte] at c2'
        refine ⟨-1, I', J', p_T X' u', ?_, c2', c3'⟩
        unfold F_X11_rests
        simp (disch := omega) only [↓ce_36 hB', rf_36 hB', ↓nn_38, ↓nn_40, ↓nn_45, ↓nn_50, ↓nn_52, ↓nn_53, ↓nn_54, ↓nn_56, ↓nn_58, ↓nn_64, ↓nn_67, ↓nn_68, ↓nn_84, p_bs, p_rq0, p_rq1, p_rz0, p_rz1, p_us, p_un, p_uj, ↓reduceIte, hp', g1', t_b0, Bool.true_eq_false, hl', h16']
end PG'
