/-! a game: both sides -/
def t_pg (H' : t_H) (s' : Nat → Int32) (a' b' : Int32) : Bool := t_inr a' (t_ng H') && t_inr b' (t_ng H') && !decide (a' = b') && !t_bit (s' 4) a'.toNatClampNeg && !t_bit (s' 4) b'.toNatClampNeg
section PG'
variable {A' : v_A} {X' : p_X} {I' : p_I} {H' : t_H} {s' : Nat → Int32}
theorem s_canPlay (hB' : p_B X') (hH' : t_HI H' I') (a' b' : Int32) : F_X11_canPlay 36 a' b' (I', X') = some (t_b (t_pg H' (I' 54) a' b')) := by
  have hng' : t_ng H' ≤ 6 := hH'.2.2.2.2.2.2.2
  have h1' := s_hasGuest hB' hH' a'
  have h2' := s_hasGuest hB' hH' b'
  unfold F_X11_canPlay
  cases hr' : t_inr a' (t_ng H')
  · simp (disch := omega) only [↓ce_36 hB', rf_36 hB', ↓ce_39 hB', rf_39 hB', ↓nn_38, ↓nn_40, ↓nn_41, ↓nn_42, ↓nn_43, ↓nn_44, ↓nn_45, ↓nn_50, ↓nn_52, ↓nn_53, ↓nn_54, ↓nn_56, ↓nn_58, ↓nn_64, ↓nn_67, ↓nn_68, ↓nn_84, p_bs, p_rq0, p_rq1, p_rz0, p_rz1, p_us, p_un, p_uj, ↓reduceIte, h1', hr', t_b0]
    unfold t_pg; rw [hr']; rfl
  · cases hr2' : t_inr b' (t_ng H')
    · simp (disch := omega) only [↓ce_36 hB', rf_36 hB', ↓ce_39 hB', rf_39 hB', ↓nn_38, ↓nn_40, ↓nn_41, ↓nn_42, ↓nn_43, ↓nn_44, ↓nn_45, ↓nn_50, ↓nn_52, ↓nn_53, ↓nn_54, ↓nn_56, ↓nn_58, ↓nn_64, ↓nn_67, ↓nn_68, ↓nn_84, p_bs, p_rq0, p_rq1, p_rz0, p_rz1, p_us, p_un, p_uj, ↓reduceIte, h1', h2', hr', hr2', t_b0, Bool.true_eq_false]
      unfold t_pg; rw [hr', hr2']; rfl
    · by_cases hab' : a' = b'
      · simp (disch := omega) only [↓ce_36 hB', rf_36 hB', ↓ce_39 hB', rf_39 hB', ↓nn_38, ↓nn_40, ↓nn_41, ↓nn_42, ↓nn_43, ↓nn_44, ↓nn_45, ↓nn_50, ↓nn_52, ↓nn_53, ↓nn_54, ↓nn_56, ↓nn_58, ↓nn_64, ↓nn_67, ↓nn_68, ↓nn_84, p_bs, p_rq0, p_rq1, p_rz0, p_rz1, p_us, p_un, p_uj, ↓reduceIte, h1', h2', hr', hr2', t_b0, Bool.true_eq_false, hab']
        unfold t_pg; simp; rfl
      · obtain ⟨x', hx', rfl⟩ := t_inrE (by omega) hr'
        obtain ⟨y', hy', rfl⟩ := t_inrE (by omega) hr2'
        have l1' : F_X8_hasLeft 53 (Int32.ofNat x') (I', X') = some (t_b (t_bit (I' 54 4) x')) := s_hasLeft (I' := I') (k' := 53) hB' (by omega) x'
        have l2' : F_X8_hasLeft 53 (Int32.ofNat y') (I', X') = some (t_b (t_bit (I' 54 4) y')) := s_hasLeft (I' := I') (k' := 53) hB' (by omega) y'
        unfold t_pg
        rw [p_nat x' (by omega), p_nat y' (by omega), hr', hr2']
        cases hb1' : t_bit (I' 54 4) x'
        · cases hb2' : t_bit (I' 54 4) y'
          · simp (disch := omega) only [↓ce_36 hB', rf_36 hB', ↓ce_39 hB', rf_39 hB', ↓ce_53 hB', rf_53 hB', ↓nn_38, ↓nn_40, ↓nn_41, ↓nn_42, ↓nn_43, ↓nn_44, ↓nn_45, ↓nn_50, ↓nn_52, ↓nn_53, ↓nn_54, ↓nn_55, ↓nn_56, ↓nn_58, ↓nn_64, ↓nn_67, ↓nn_68, ↓nn_84, p_bs, p_rq0, p_rq1, p_rz0, p_rz1, p_us, p_un, p_uj, ↓reduceIte, h1', h2', hr', hr2', t_b0, Bool.true_eq_false, hab', l1', l2', hb1', hb2']
            rfl
          · simp (disch := omega) only [↓ce_36 hB', rf_36 hB', ↓ce_39 hB', rf_39 hB', ↓ce_53 hB', rf_53 hB', ↓nn_38, ↓nn_40, ↓nn_41, ↓nn_42, ↓nn_43, ↓nn_44, ↓nn_45, ↓nn_50, ↓nn_52, ↓nn_53, ↓nn_54, ↓nn_55, ↓nn_56, ↓nn_58, ↓nn_64, ↓nn_67, ↓nn_68, ↓nn_84, p_bs, p_rq0, p_rq1, p_rz0, p_rz1, p_us, p_un, p_uj, ↓reduceIte, h1', h2', hr', hr2', t_b0, Bool.true_eq_false, hab', l1', l2', hb1', hb2']
            rfl
        · simp (disch := omega) only [↓ce_36 hB', rf_36 hB', ↓ce_39 hB', rf_39 hB', ↓ce_53 hB', rf_53 hB', ↓nn_38, ↓nn_40, ↓nn_41, ↓nn_42, ↓nn_43, ↓nn_44, ↓nn_45, ↓nn_50, ↓nn_52, ↓nn_53, ↓nn_54, ↓nn_55, ↓nn_56, ↓nn_58, ↓nn_64, ↓nn_67, ↓nn_68, ↓nn_84, p_bs, p_rq0, p_rq1, p_rz0, p_rz1, p_us, p_un, p_uj, ↓reduceIte, h1', h2', hr', hr2', t_b0, Bool.true_eq_false, hab', l1', l2', hb1']
          rfl
theorem s_isGame (hB' : p_B X') (hM' : t_HM H' I') (hng' : t_ng H' ≤ 6) (hR' : t_RS s' (I' 100)) (a' b' : Int32) : F_X12_isGame 87 a' b' (I', X') = some (t_b (t_pg H' s' a' b')) := by
  have h1' := s_isGuest hB' hM' a'
  have h2' := s_isGuest hB' hM' b'
  unfold F_X12_isGame
  cases hr' : t_inr a' (t_ng H')
  · simp (disch := omega) only [↓ce_87 hB', rf_87 hB', ↓nn_31, ↓nn_33, ↓nn_89, ↓nn_90, ↓nn_91, ↓nn_92, ↓nn_93, ↓nn_94, ↓nn_95, ↓nn_96, ↓nn_97, ↓nn_98, ↓nn_99, ↓nn_100, ↓nn_101, ↓nn_102, ↓nn_103, ↓nn_104, ↓nn_105, ↓nn_106, ↓nn_107, ↓nn_108, p_bs, p_rq0, p_rq1, p_rz0, p_rz1, p_us, p_un, p_uj, ↓reduceIte, h1', hr', t_b0]
    unfold t_pg; rw [hr']; rfl
  · cases hr2' : t_inr b' (t_ng H')
    · simp (disch := omega) only [↓ce_87 hB', rf_87 hB', ↓nn_31, ↓nn_33, ↓nn_89, ↓nn_90, ↓nn_91, ↓nn_92, ↓nn_93, ↓nn_94, ↓nn_95, ↓nn_96, ↓nn_97, ↓nn_98, ↓nn_99, ↓nn_100, ↓nn_101, ↓nn_102, ↓nn_103, ↓nn_104, ↓nn_105, ↓nn_106, ↓nn_107, ↓nn_108, p_bs, p_rq0, p_rq1, p_rz0, p_rz1, p_us, p_un, p_uj, ↓reduceIte, h1', h2', hr', hr2', t_b0, Bool.true_eq_false]
      unfold t_pg; rw [hr', hr2']; rfl
    · by_cases hab' : a' = b'
      · simp (disch := omega) only [↓ce_87 hB', rf_87 hB', ↓nn_31, ↓nn_33, ↓nn_89, ↓nn_90, ↓nn_91, ↓nn_92, ↓nn_93, ↓nn_94, ↓nn_95, ↓nn_96, ↓nn_97, ↓nn_98, ↓nn_99, ↓nn_100, ↓nn_101, ↓nn_102, ↓nn_103, ↓nn_104, ↓nn_105, ↓nn_106, ↓nn_107, ↓nn_108, p_bs, p_rq0, p_rq1, p_rz0, p_rz1, p_us, p_un, p_uj, ↓reduceIte, h1', h2', hr', hr2', t_b0, Bool.true_eq_false, hab']
        unfold t_pg; simp; rfl
      · obtain ⟨x', hx', rfl⟩ := t_inrE (by omega) hr'
        obtain ⟨y', hy', rfl⟩ := t_inrE (by omega) hr2'
        have l1' : I' 100 (4 * x' + 3) = t_b (t_bit (s' 4) x') := (hR'.1.1 x' (by omega)).2.2.2
        have l2' : I' 100 (4 * y' + 3) = t_b (t_bit (s' 4) y') := (hR'.1.1 y' (by omega)).2.2.2
        unfold t_pg
        rw [p_nat x' (by omega), p_nat y' (by omega), hr', hr2']
        simp (disch := omega) only [↓ce_87 hB', rf_87 hB', ↓ce_100 hB', ↓nn_31, ↓nn_33, ↓nn_89, ↓nn_90, ↓nn_91, ↓nn_92, ↓nn_93, ↓nn_94, ↓nn_95, ↓nn_96, ↓nn_97, ↓nn_98, ↓nn_99, ↓nn_100, ↓nn_101, ↓nn_102, ↓nn_103, ↓nn_104, ↓nn_105, ↓nn_106, ↓nn_107, ↓nn_108, p_bs, p_rq0, p_rq1, p_rz0, p_rz1, p_us, p_un, p_uj, ↓reduceIte, h1', h2', hr', hr2', t_b0, Bool.true_eq_false, hab', p_ar, l1', l2']
        cases hb1' : t_bit (s' 4) x' <;> cases hb2' : t_bit (s' 4) y' <;> simp [t_b]
/-- the class's workings of a game -/
theorem v_ask2 {I1' J' : p_I} {u' : Nat} (h' : v_V A' I' X') (h1' : ∀ c', c' ≠ 63 → c' ≠ 64 → c' ≠ 65 → c' ≠ p_sc X' → c' ≠ 67 → c' ≠ 69 → c' ≠ 71 → c' ≠ 72 → I1' c' = I' c') (h2' : ∀ c', c' ≠ 87 → c' ≠ 91 → c' ≠ 102 → c' ≠ 101 → c' ≠ 105 → J' c' = I1' c') (h3' : ∀ j', ¬ t_m87 j' → j' ≠ 0 → J' 87 j' = I1' 87 j') : v_V A' J' (p_T X' u') := by
  obtain ⟨L0', hLC', -⟩ := v_law h'
  have hsc' := p_scN hLC'
  have f' : ∀ c', c' = 36 ∨ c' = 37 ∨ c' = 98 ∨ c' = 99 → J' c' = I' c' := fun c' hc' => by rw [h2' c' (by omega) (by omega) (by omega) (by omega) (by omega), h1' c' (by omega) (by omega) (by omega) (by omega) (by omega) (by omega) (by omega) (by omega)]
  refine v_keep h' ⟨fun c' z1' z2' => ?_, ?_, fun j' z1' z2' z3' z4' z5' z6' z7' => ?_, fun j' _ => ?_, fun j' _ => ?_, fun c' z1' z2' z3' z4' => ?_⟩ u'
  · rw [h2' c' (by omega) (by omega) (by omega) (by omega) (by omega), h1' c' (by omega) (by omega) (by omega) (by omega) (by omega) (by omega) (by omega) (by omega)]
  · rw [f' 37 (by omega)]
  · rw [h3' j' (by omega) z4', h1' 87 (by omega) (by omega) (by omega) (by omega) (by omega) (by omega) (by omega) (by omega)]
  · rw [f' 98 (by omega)]
  · rw [f' 99 (by omega)]
  · rw [h2' c' (by omega) (by omega) (by omega) (by omega) (by omega), h1' c' (by omega) (by omega) (by omega) z2' (by omega) (by omega) (by omega) (by omega)]
theorem m_game (h' : v_V A' I' X') (a' b' x' y' k' : Int32) : ∃ r' I1' J' X1', F_X11_game 36 a' b' x' y' k' (I', X') = some (r', (I1', X')) ∧ F_X12_game 87 a' b' x' y' k' (I1', X') = some (r', (J', X1')) ∧ v_V A' J' X1' := by
  have hB' := h'.1
  obtain ⟨L', hLC', hLM'⟩ := v_law h'
  have hsc' := p_scN hLC'
  have hH' := h'.2.2.2.1
  have hng6' : t_ng A'.1 ≤ 6 := hH'.2.1.2.2.2.2.2.2.2
  have hp' := s_canPlay hB' hH'.2.1 a' b'
  have hx' : ∀ M' : q_Mem, F_X12_isIn x'.toInt64 0 3 M' = some (t_b (t_inr x' 4)) := fun M' => s_isInT x' 3 (by decide) 0 3 rfl rfl M'
  have hy' : ∀ M' : q_Mem, F_X12_isIn y'.toInt64 0 3 M' = some (t_b (t_inr y' 4)) := fun M' => s_isInT y' 3 (by decide) 0 3 rfl rfl M'
  have hk' : ∀ M' : q_Mem, F_X12_isIn k'.toInt64 0 1 M' = some (t_b (t_inr k' 2)) := fun M' => s_isInT k' 1 (by decide) 0 1 rfl rfl M'
  have h0' : ∀ I1' : p_I, (∀ c', 70 ≤ c' → c' < 109 → c' ≠ 71 → c' ≠ 72 → I1' c' = I' c') → F_X12_isGame 87 a' b' (q_u2 I1' 87 0 0, X') = some (t_b (t_pg A'.1 (I' 54) a' b')) := by
    intro I1' f'
    have hM1' : t_HM A'.1 (q_u2 I1' 87 0 0) := v_hm h' (by rw [p_uc _ _ _ _ _ (by decide), f' 92 (by decide) (by decide) (by decide) (by decide)]) (by rw [p_uc _ _ _ _ _ (by decide), f' 94 (by decide) (by decide) (by decide) (by decide)]) (by rw [p_uc _ _ _ _ _ (by decide), f' 96 (by decide) (by decide) (by decide) (by decide)]) (by rw [p_uj _ _ _ _ _ (by decide), f' 87 (by decide) (by decide) (by decide) (by decide)]) (by rw [p_uj _ _ _ _ _ (by decide), f' 87 (by decide) (by decide) (by decide) (by decide)])
    rcases v_t h' with ⟨hz', hR', hHW'⟩ | hz'
    · exact s_isGame hB' hM1' hng6' (by rw [p_uc _ _ _ _ _ (by decide), f' 100 (by decide) (by decide) (by decide) (by decide)]; exact hR'.2.1) a' b'
    · have h1' := s_isGuest hB' hM1' a'
      rw [(v_zf h' hz').2, t_inr0] at h1'
      unfold F_X12_isGame
      simp (disch := omega) only [↓ce_87 hB', rf_87 hB', ↓nn_31, ↓nn_33, ↓nn_89, ↓nn_90, ↓nn_91, ↓nn_92, ↓nn_93, ↓nn_94, ↓nn_95, ↓nn_96, ↓nn_97, ↓nn_98, ↓nn_99, ↓nn_100, ↓nn_101, ↓nn_102, ↓nn_103, ↓nn_104, ↓nn_105, ↓nn_106, ↓nn_107, ↓nn_108, p_bs, p_rq0, p_rq1, p_rz0, p_rz1, p_us, p_un, p_uj, ↓reduceIte, h1', t_b0]
      unfold t_pg
      rw [(v_zf h' hz').2, t_inr0]
      rfl
  have hI' := h0' I' (fun _ _ _ _ _ => rfl)
  by_cases hall : t_pg A'.1 (I' 54) a' b' = true ∧ t_inr x' 4 = true ∧ t_inr y' 4 = true ∧ t_inr k' 2 = true
  · obtain ⟨g1', g2', g3', g4'⟩ := hall
    have hra' : t_inr a' (t_ng A'.1) = true ∧ t_inr b' (t_ng A'.1) = true ∧ a' ≠ b' := by
      simp only [t_pg, Bool.and_eq_true, Bool.not_eq_true', decide_eq_false_iff_not] at g1'
      exact ⟨g1'.1.1.1.1, g1'.1.1.1.2, g1'.1.1.2⟩
    obtain ⟨r1', r2', r3'⟩ := hra'
    obtain ⟨a'', ha'', rfl⟩ := t_inrE (by omega) r1'
    obtain ⟨b'', hb'', rfl⟩ := t_inrE (by omega) r2'
    obtain ⟨x'', hx'', rfl⟩ := t_inrE (by omega) g2'
    obtain ⟨y'', hy'', rfl⟩ := t_inrE (by omega) g3'
    obtain ⟨k'', hk'', rfl⟩ := t_inrE (by omega) g4'
    have hab' : a'' ≠ b'' := fun e' => r3' (by rw [e'])
    have hz' : A'.2.1 = true := by
      cases hz' : A'.2.1
      · have := (v_zf h' hz').2; omega
      · rfl
    have hHW' := hH'.2.2.2.1 hz'
    obtain ⟨w1', w2', w3', w4', w5', w6'⟩ := h'.2.2.2.2.1.1 hz'
    obtain ⟨I1', s', b1', b2', b3', b4', b5', b6'⟩ := s_play (I' := I') (L' := L') hB' hH'.2.1 hHW' hLC' w1' w5' w3' w4' (x' := x'') (y' := y'') (a' := a'') (b' := b'') (by omega) (by omega) hab' (by omega) (by omega)
    have f' : ∀ c', 70 ≤ c' → c' < 109 → c' ≠ 71 → c' ≠ 72 → I1' c' = I' c' := fun c' z1' z2' _ _ => b3' c' (by omega) (by omega) (by omega) (by omega) (by omega) (by omega)
    have hM1' : t_HM A'.1 (q_u2 I1' 87 0 0) := v_hm h' (by rw [p_uc _ _ _ _ _ (by decide), f' 92 (by decide) (by decide) (by decide) (by decide)]) (by rw [p_uc _ _ _ _ _ (by decide), f' 94 (by decide) (by decide) (by decide) (by decide)]) (by rw [p_uc _ _ _ _ _ (by decide), f' 96 (by decide) (by decide) (by decide) (by decide)]) (by rw [p_uj _ _ _ _ _ (by decide), f' 87 (by decide) (by decide) (by decide) (by decide)]) (by rw [p_uj _ _ _ _ _ (by decide), f' 87 (by decide) (by decide) (by decide) (by decide)])
    have hg2' := h0' I1' f'
    obtain ⟨J', u', d1', d2', d3'⟩ := s_gameOf (I' := q_u2 I1' 87 0 0) (s' := s') (L' := L') hB' (fun c' hc' => by rw [p_uc _ _ _ _ _ (by omega), b3' c' (by omega) (by omega) (by omega) (by omega) (by omega) (by omega)]; exact h'.2.1 c' hc') hM1' hHW' (t_WFa w1' b2') (by rw [p_uc _ _ _ _ _ (by decide), f' 100 (by decide) (by decide) (by decide) (by decide)]; exact t_RSa w2' b2' (fun _ _ => rfl)) (fun g' hg' => by rw [b2' _ (by omega)]; exact w5' g' hg') (t_LMk hLM' (by rw [p_uj _ _ _ _ _ (by decide), f' 87 (by decide) (by decide) (by decide) (by decide)]) (by rw [p_uc _ _ _ _ _ (by decide), f' 89 (by decide) (by decide) (by decide) (by decide)]) (by rw [p_uc _ _ _ _ _ (by decide), f' 90 (by decide) (by decide) (by decide) (by decide)])) (by rw [b2' 0 (by decide)]; exact w3') w4' ha'' hb'' hab' (x' := x'') (y' := y'') (by omega) (by omega) k'' hk''
    have n0' : ∀ n' : Nat, n' < 100 → (Int32.ofNat n' < 0) = False := fun n' hn' => by
      rw [show (0 : Int32) = Int32.ofNat 0 from rfl, p_lt n' 0 (by omega) (by omega)]
      simp
    have n3' : ∀ n' : Nat, n' < 4 → (3 < Int32.ofNat n') = False := fun n' hn' => by
      rw [show (3 : Int32) = Int32.ofNat 3 from rfl, p_lt 3 n' (by omega) (by omega)]
      apply eq_false
      omega
    have n1' : (1 < Int32.ofNat k'') = False := by
      rw [show (1 : Int32) = Int32.ofNat 1 from rfl, p_lt 1 k'' (by omega) (by omega)]
      apply eq_false
      omega
    refine ⟨t_gm A'.1 L' s' a'' b'' x'' y'' (if k'' = 0 then a'' else b''), I1', J', p_T X' u', ?_, ?_, v_ask2 h' (fun c' z1' z2' z3' z4' z5' z6' z7' z8' => b3' c' z1' z2' z3' z4' z5' z6') (fun c' z1' z2' z3' z4' z5' => by rw [d2' c' z1' z2' z3' z4', p_uc _ _ _ _ _ z1']) (fun j' z1' z2' => by rw [d3' j' z1', p_uj _ _ _ _ _ z2'])⟩
    · unfold F_X11_game
      have l1' : (Int32.ofNat k'' = 0) = (k'' = 0) := by
        apply propext
        constructor
        · intro h'; exact p_inj (show Int32.ofNat k'' = Int32.ofNat 0 from h') (by omega) (by omega)
        · intro h'; rw [h']; rfl
      by_cases hk0' : k'' = 0
      · simp (disch := omega) only [↓ce_36 hB', rf_36 hB', ↓ce_67 hB', rf_67 hB', ↓nn_38, ↓nn_40, ↓nn_45, ↓nn_50, ↓nn_52, ↓nn_53, ↓nn_54, ↓nn_56, ↓nn_58, ↓nn_64, ↓nn_67, ↓nn_68, ↓nn_69, ↓nn_71, ↓nn_72, ↓nn_73, ↓nn_84, p_bs, p_rq0, p_rq1, p_rz0, p_rz1, p_us, p_un, p_uj, ↓reduceIte, hp', g1', t_b0, Bool.true_eq_false, n0' x'' (by omega), n0' y'' (by omega), n0' k'' (by omega), n3' x'' hx'', n3' y'' hy'', n1', b1', b5', l1']
        simp only [hk0', ↓reduceIte]
      · simp (disch := omega) only [↓ce_36 hB', rf_36 hB', ↓ce_67 hB', rf_67 hB', ↓nn_38, ↓nn_40, ↓nn_45, ↓nn_50, ↓nn_52, ↓nn_53, ↓nn_54, ↓nn_56, ↓nn_58, ↓nn_64, ↓nn_67, ↓nn_68, ↓nn_69, ↓nn_71, ↓nn_72, ↓nn_73, ↓nn_84, p_bs, p_rq0, p_rq1, p_rz0, p_rz1, p_us, p_un, p_uj, ↓reduceIte, hp', g1', t_b0, Bool.true_eq_false, n0' x'' (by omega), n0' y'' (by omega), n0' k'' (by omega), n3' x'' hx'', n3' y'' hy'', n1', b1', b6', l1', hk0']
    · unfold F_X12_game
      simp (disch := omega) only [↓ce_87 hB', rf_87 hB', ↓nn_31, ↓nn_33, ↓nn_89, ↓nn_90, ↓nn_91, ↓nn_92, ↓nn_93, ↓nn_94, ↓nn_95, ↓nn_96, ↓nn_97, ↓nn_98, ↓nn_99, ↓nn_100, ↓nn_101, ↓nn_102, ↓nn_103, ↓nn_104, ↓nn_105, ↓nn_106, ↓nn_107, ↓nn_108, p_bs, p_rq0, p_rq1, p_rz0, p_rz1, p_us, p_un, p_uj, ↓reduceIte, hg2', g1', hx', hy', hk', g2', g3', g4', t_b0, Bool.true_eq_false, d1']
  · refine ⟨-1000000, I', _, X', ?_, ?_, v_thr h'⟩
    · have k3' : ∀ (l' : Int32) (o' q' : Option (Int32 × q_Mem)), (if l' < 0 then q' else if 3 < l' then q' else o') = if t_inr l' 4 = true then o' else q' := fun l' o' q' => t_if20 l' 3 3 (by decide) rfl q' o'
      have k1' : ∀ (l' : Int32) (o' q' : Option (Int32 × q_Mem)), (if l' < 0 then q' else if 1 < l' then q' else o') = if t_inr l' 2 = true then o' else q' := fun l' o' q' => t_if20 l' 1 1 (by decide) rfl q' o'
      unfold F_X11_game
      cases g1' : t_pg A'.1 (I' 54) a' b'
      · simp (disch := omega) only [↓ce_36 hB', rf_36 hB', ↓nn_38, ↓nn_40, ↓nn_45, ↓nn_50, ↓nn_52, ↓nn_53, ↓nn_54, ↓nn_56, ↓nn_58, ↓nn_64, ↓nn_67, ↓nn_68, ↓nn_84, p_bs, p_rq0, p_rq1, p_rz0, p_rz1, p_us, p_un, p_uj, ↓reduceIte, hp', g1', t_b0]
      · simp (disch := omega) only [↓ce_36 hB', rf_36 hB', ↓nn_38, ↓nn_40, ↓nn_45, ↓nn_50, ↓nn_52, ↓nn_53, ↓nn_54, ↓nn_56, ↓nn_58, ↓nn_64, ↓nn_67, ↓nn_68, ↓nn_84, p_bs, p_rq0, p_rq1, p_rz0, p_rz1, p_us, p_un, p_uj, ↓reduceIte, hp', g1', t_b0, Bool.true_eq_false]
        rw [k3', k3', k1']
        cases g2' : t_inr x' 4
        · simp
        · cases g3' : t_inr y' 4
          · simp
          · cases g4' : t_inr k' 2
            · simp
            · exact absurd ⟨g1', g2', g3', g4'⟩ hall
    · unfold F_X12_game
      cases g1' : t_pg A'.1 (I' 54) a' b'
      · simp (disch := omega) only [↓ce_87 hB', rf_87 hB', ↓nn_31, ↓nn_33, ↓nn_89, ↓nn_90, ↓nn_91, ↓nn_92, ↓nn_93, ↓nn_94, ↓nn_95, ↓nn_96, ↓nn_97, ↓nn_98, ↓nn_99, ↓nn_100, ↓nn_101, ↓nn_102, ↓nn_103, ↓nn_104, ↓nn_105, ↓nn_106, ↓nn_107, ↓nn_108, p_bs, p_rq0, p_rq1, p_rz0, p_rz1, p_us, p_un, p_uj, ↓reduceIte, hI', g1', t_b0]
      · cases g2' : t_inr x' 4
        · simp (disch := omega) only [↓ce_87 hB', rf_87 hB', ↓nn_31, ↓nn_33, ↓nn_89, ↓nn_90, ↓nn_91, ↓nn_92, ↓nn_93, ↓nn_94, ↓nn_95, ↓nn_96, ↓nn_97, ↓nn_98, ↓nn_99, ↓nn_100, ↓nn_101, ↓nn_102, ↓nn_103, ↓nn_104, ↓nn_105, ↓nn_106, ↓nn_107, ↓nn_108, p_bs, p_rq0, p_rq1, p_rz0, p_rz1, p_us, p_un, p_uj, ↓reduceIte, hI', g1', hx', g2', t_b0, Bool.true_eq_false]
        · cases g3' : t_inr y' 4
          · simp (disch := omega) only [↓ce_87 hB', rf_87 hB', ↓nn_31, ↓nn_33, ↓nn_89, ↓nn_90, ↓nn_91, ↓nn_92, ↓nn_93, ↓nn_94, ↓nn_95, ↓nn_96, ↓nn_97, ↓nn_98, ↓nn_99, ↓nn_100, ↓nn_101, ↓nn_102, ↓nn_103, ↓nn_104, ↓nn_105, ↓nn_106, ↓nn_107, ↓nn_108, p_bs, p_rq0, p_rq1, p_rz0, p_rz1, p_us, p_un, p_uj, ↓reduceIte, hI', g1', hx', hy', g2', g3', t_b0, Bool.true_eq_false]
          · cases g4' : t_inr k' 2
            · simp (disch := omega) only [↓ce_87 hB', rf_87 hB', ↓nn_31, ↓nn_33, ↓nn_89, ↓nn_90, ↓nn_91, ↓nn_92, ↓nn_93, ↓nn_94, ↓nn_95, ↓nn_96, ↓nn_97, ↓nn_98, ↓nn_99, ↓nn_100, ↓nn_101, ↓nn_102, ↓nn_103, ↓nn_104, ↓nn_105, ↓nn_106, ↓nn_107, ↓nn_108, p_bs, p_rq0, p_rq1, p_rz0, p_rz1, p_us, p_un, p_uj, ↓reduceIte, hI', g1', hx', hy', hk', g2', g3', g4', t_b0, Bool.true_eq_false]
            · exact absurd ⟨g1', g2', g3', g4'⟩ hall
end PG'
