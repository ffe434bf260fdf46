section PD'
variable {X' : p_X} {I' : p_I} {H' : t_H} {k' : Nat}
theorem s_feed2 (hB' : p_B X') (hH' : t_HI H' I') (hW' : t_HW H') (hk' : t_SK k') (hS' : t_WF H' (I' (k' + 1))) (h4' : I' 63 4 = t_B (t_tp H' (I' (k' + 1)))) (h64' : ∀ g', g' < t_ng H' → I' 64 g' = t_b (t_fd H' (I' (k' + 1)) g')) :
    ∃ I'', q_lp (fun s' => B_X1_feedThose_103 63 k' s'.1 s'.2.1 s'.2.2) q_fu (Int32.ofNat (t_q H' (I' (k' + 1)) (t_ng H')).1, 0, (I', X')) = some (Int32.ofNat (t_r H' (I' (k' + 1)) (t_ng H')).1, (I'', X')) ∧ (∀ c', c' ≠ 64 → I'' c' = I' c') ∧ (∀ g', g' < t_ng H' → I'' 64 g' = t_pl H' (I' (k' + 1)) g') := by
  have hng' : t_ng H' ≤ 6 := hH'.2.2.2.2.2.2.2
  obtain ⟨n', hn', hn6'⟩ := t_svN hS'
  have hnn' : (t_sv H' (I' (k' + 1))).toNatClampNeg = n' := by rw [hn', p_nat _ (by omega)]
  have hq0' := t_qL H' (I' (k' + 1)) (t_ng H')
  obtain ⟨e', h1', I'', rfl, h2'⟩ := p_lp (fun s' => B_X1_feedThose_103 63 k' s'.1 s'.2.1 s'.2.2) (fun i' s' => ∃ J', s' = (Int32.ofNat (t_r H' (I' (k' + 1)) i').1, Int32.ofNat i', (J', X')) ∧ (∀ c', c' ≠ 64 → J' c' = I' c') ∧ (∀ g', g' < t_ng H' → J' 64 g' = t_b (t_fd H' (I' (k' + 1)) g') + t_b ((t_r H' (I' (k' + 1)) i').2 g')))
    (fun e' => ∃ I'', e' = (Int32.ofNat (t_r H' (I' (k' + 1)) (t_ng H')).1, (I'', X')) ∧ (∀ c', c' ≠ 64 → I'' c' = I' c') ∧ (∀ g', g' < t_ng H' → I'' 64 g' = t_pl H' (I' (k' + 1)) g')) (t_ng H') (by
      rintro i' s' hi' ⟨J', rfl, j1', j4'⟩
      have hH'' : t_HI H' J' := t_HIk hH' (fun c' h1' h2' => j1' c' (by omega))
      have hng'' : J' 39 5 = Int32.ofNat (t_ng H') := hH''.2.2.2.2.2.1
      have hs' : J' (k' + 1) = I' (k' + 1) := j1' _ (by omega)
      have hr' := t_rL H' (I' (k' + 1)) i'
      by_cases hlt' : i' < t_ng H'
      · have hbit : t_bit (J' 63 4) i' = t_tp H' (I' (k' + 1)) i' := by rw [j1' 63 (by decide), h4', t_BA _ _ (by omega)]
        have hG' := s_ofGuest hB' hH'' i' 0 (by omega) (by omega)
        have hG'' : F_X3_ofGuest 39 (Int32.ofNat i') 0 (J', X') = some (t_hg H' (i' * 4)) := hG'
        unfold B_X1_feedThose_103 J_X1_feedThose_176_103
        simp (disch := omega) only [↓ce_63 hB', rf_63 hB', ↓ce_39 hB', rf_39 hB', ↓ce_64 hB', ↓nn_40, ↓nn_41, ↓nn_42, ↓nn_43, ↓nn_44, ↓nn_65, ↓nn_66, p_bs, p_rq0, p_rq1, p_rz0, p_rz1, p_us, p_un, p_uj, ↓reduceIte, p_st hk' hB', hng'', p_lt, hlt', p_cm, hG'', t_bitE, hbit, p_ar, hs']
        by_cases hc1' : 0 < (t_r H' (I' (k' + 1)) i').1
        · left
          by_cases hc' : t_ld H' (I' (k' + 1)) i' = true
          · have hr1' : t_r H' (I' (k' + 1)) (i' + 1) = ((t_r H' (I' (k' + 1)) i').1 - 1, fun x' => (t_r H' (I' (k' + 1)) i').2 x' || x' == i') := by rw [t_r, if_pos ⟨hc1', hc'⟩]
            have hc'' := hc'
            unfold t_ld at hc''
            simp only [Bool.and_eq_true, decide_eq_true_eq] at hc''
            refine ⟨_, by simp only [hc1', hc''.1, ← hc''.2, ↓reduceIte, Bool.true_eq_false, p_dec _ hc1']; rfl, True.intro, _, by rw [hr1'], ?_, ?_⟩
            · intro c' h1'; rw [p_uc _ _ _ _ _ h1']; exact j1' c' h1'
            · intro g' hg'
              rw [hr1']
              show _ = _ + t_b ((t_r H' (I' (k' + 1)) i').2 g' || g' == i')
              by_cases eg' : g' = i'
              · subst eg'
                have hx' : (t_r H' (I' (k' + 1)) g').2 g' = false := by
                  cases hx' : (t_r H' (I' (k' + 1)) g').2 g'
                  · rfl
                  · exact absurd (t_rM _ _ _ _ hx') (by omega)
                rw [p_us, j4' g' hg', hx']
                cases t_fd H' (I' (k' + 1)) g' <;> simp [t_b]
              · rw [p_uj _ _ _ _ _ eg', j4' g' hg', beq_false_of_ne eg', Bool.or_false]
          · have hr1' : t_r H' (I' (k' + 1)) (i' + 1) = t_r H' (I' (k' + 1)) i' := by rw [t_r, if_neg (fun h' => hc' h'.2)]
            refine ⟨_, by
              cases hx' : t_tp H' (I' (k' + 1)) i'
              · simp only [hc1', ↓reduceIte]; rfl
              · have hy' : ¬ I' (k' + 1) 0 = t_hg H' (i' * 4) + I' (k' + 1) (13 + i') - 1 := fun e' => hc' (by simp [t_ld, hx', ← e'])
                simp only [hc1', hy', ↓reduceIte, Bool.true_eq_false], True.intro, J', by rw [hr1'], j1', ?_⟩
            rw [hr1']
            exact j4'
        · right
          have hz' : t_r H' (I' (k' + 1)) (t_ng H') = t_r H' (I' (k' + 1)) i' := by
            rw [show t_ng H' = i' + (t_ng H' - i') by omega]
            exact t_rS _ _ _ _ (by omega)
          refine ⟨_, by simp only [hc1', ↓reduceIte]; rfl, J', by rw [hz'], j1', ?_⟩
          intro g' hg'
          rw [j4' g' hg', t_pl, hz']
      · right
        have hi'' : i' = t_ng H' := by omega
        subst hi''
        refine ⟨_, ?_, J', rfl, j1', j4'⟩
        unfold B_X1_feedThose_103
        simp (disch := omega) only [↓ce_63 hB', rf_63 hB', ↓ce_39 hB', rf_39 hB', ↓nn_40, ↓nn_41, ↓nn_42, ↓nn_43, ↓nn_44, ↓nn_65, ↓nn_66, p_bs, p_rq0, p_rq1, p_rz0, p_rz1, p_us, p_un, p_uj, ↓reduceIte, hng'', p_lt, Nat.lt_irrefl]) (t_ng H') 0 q_fu (Int32.ofNat (t_q H' (I' (k' + 1)) (t_ng H')).1, 0, (I', X')) (by omega) (by unfold q_fu; omega) ⟨I', rfl, fun _ _ => rfl, fun g' hg' => by rw [h64' g' hg', t_r]; cases t_fd H' (I' (k' + 1)) g' <;> rfl⟩
  exact ⟨I'', h1', h2'⟩
theorem s_feedThose (hB' : p_B X') (hH' : t_HI H' I') (hW' : t_HW H') (hk' : t_SK k') (hS' : t_WF H' (I' (k' + 1))) (h4' : I' 63 4 = t_B (t_tp H' (I' (k' + 1)))) (h9' : I' 63 9 = t_sv H' (I' (k' + 1))) :
    ∃ I'', F_X1_feedThose 63 k' (I', X') = some ((), I'', X') ∧ (∀ c', c' ≠ 63 → c' ≠ 64 → I'' c' = I' c') ∧ (∀ j', j' ≠ 10 → j' ≠ 11 → I'' 63 j' = I' 63 j') ∧ I'' 63 10 = t_B (t_fd H' (I' (k' + 1))) ∧ I'' 63 11 = Int32.ofNat (t_r H' (I' (k' + 1)) (t_ng H')).1 ∧ (∀ g', g' < t_ng H' → I'' 64 g' = t_pl H' (I' (k' + 1)) g') := by
  have e0' : q_u2 I' 63 10 0 (k' + 1) = I' (k' + 1) := p_uc _ _ _ _ _ (by omega)
  obtain ⟨I1', a1', a2', a3', a4', a5'⟩ := s_feed1 (I' := q_u2 I' 63 10 0) hB' (t_HIk hH' (fun c' h1' h2' => p_uc _ _ _ _ _ (by omega))) hW' hk' (by rw [e0']; exact hS') (by rw [e0', p_uj _ _ _ _ _ (by decide)]; exact h4') (p_us _ _ _ _)
  rw [e0'] at a1' a4' a5'
  have e1' : I1' (k' + 1) = I' (k' + 1) := by rw [a2' _ (by omega) (by omega), e0']
  obtain ⟨I2', b1', b2', b3'⟩ := s_feed2 (I' := I1') hB' (t_HIk hH' (fun c' h1' h2' => by rw [a2' c' (by omega) (by omega), p_uc _ _ _ _ _ (by omega)])) hW' hk' (by rw [e1']; exact hS') (by rw [e1', a3' 4 (by decide), p_uj _ _ _ _ _ (by decide)]; exact h4') (by rw [e1']; exact a5')
  rw [e1'] at b1' b3'
  unfold F_X1_feedThose
  simp (disch := omega) only [↓ce_63 hB', rf_63 hB', ↓nn_40, ↓nn_65, ↓nn_66, p_bs, p_rq0, p_rq1, p_rz0, p_rz1, p_us, p_un, p_uj, ↓reduceIte, h9', a1', b1']
  refine ⟨_, rfl, ?_, ?_, ?_, ?_, ?_⟩
  · intro c' h1' h2'; rw [p_uc _ _ _ _ _ h1', b2' c' h2', a2' c' h1' h2', p_uc _ _ _ _ _ h1']
  · intro j' h1' h2'; rw [p_uj _ _ _ _ _ h2', b2' 63 (by decide), a3' j' h1', p_uj _ _ _ _ _ h1']
  · rw [p_uj _ _ _ _ _ (by decide), b2' 63 (by decide), a4']
  · rw [p_us]
  · intro g' hg'; rw [p_un _ _ _ _ _ _ (by decide), b3' g' hg']
/-- the class's evening after 'lay' of the State at k -/
def t_EV (H' : t_H) (s' : Nat → Int32) (I' : p_I) : Prop := I' 63 4 = t_B (t_tp H' s') ∧ I' 63 5 = t_ck H' s' ∧ I' 63 6 = t_pn H' s' ∧ I' 63 7 = t_ds H' s' ∧ I' 63 8 = t_wm H' s' ∧ I' 63 9 = t_sv H' s' ∧ I' 63 10 = t_B (t_fd H' s') ∧ I' 63 11 = Int32.ofNat (t_r H' s' (t_ng H')).1 ∧ (∀ g', g' < t_ng H' → I' 64 g' = t_pl H' s' g')
theorem s_lay (hB' : p_B X') (hH' : t_HI H' I') (hW' : t_HW H') (hk' : t_SK k') (hS' : t_WF H' (I' (k' + 1))) :
    ∃ I'', F_X1_lay 63 k' (I', X') = some ((), I'', X') ∧ (∀ c', c' ≠ 63 → c' ≠ 64 → I'' c' = I' c') ∧ t_EV H' (I' (k' + 1)) I'' := by
  have e0' : q_u2 I' 63 4 0 (k' + 1) = I' (k' + 1) := p_uc _ _ _ _ _ (by omega)
  obtain ⟨I1', a1', a2', a3', a4'⟩ := s_layLoop (I' := q_u2 I' 63 4 0) hB' (t_HIk hH' (fun c' h1' h2' => p_uc _ _ _ _ _ (by omega))) hk' (p_us _ _ _ _)
  rw [e0'] at a4'
  have e1' : I1' (k' + 1) = I' (k' + 1) := by rw [a2' _ (by omega), e0']
  have hH1' : t_HI H' I1' := t_HIk hH' (fun c' h1' h2' => by rw [a2' c' (by omega), p_uc _ _ _ _ _ (by omega)])
  have key' : ∀ v', v' = t_ck H' (I' (k' + 1)) → ∃ I'', J_X1_lay_78 63 k' 63 v' (I1', X') = some ((), I'', X') ∧ (∀ c', c' ≠ 63 → c' ≠ 64 → I'' c' = I' c') ∧ t_EV H' (I' (k' + 1)) I'' := by
    rintro v' rfl
    have e2' : q_u2 (q_u2 I1' 63 5 (t_ck H' (I' (k' + 1)))) 63 6 (t_pn H' (I' (k' + 1))) (k' + 1) = I' (k' + 1) := by rw [p_uc _ _ _ _ _ (by omega), p_uc _ _ _ _ _ (by omega), e1']
    obtain ⟨I2', b1', b2', b3', b4', b5', b6'⟩ := s_serve (I' := q_u2 (q_u2 I1' 63 5 (t_ck H' (I' (k' + 1)))) 63 6 (t_pn H' (I' (k' + 1)))) hB' (t_HIk hH1' (fun c' h1' h2' => by rw [p_uc _ _ _ _ _ (by omega), p_uc _ _ _ _ _ (by omega)])) hk' (by rw [e2']; exact hS') hW'.1 (by rw [e2']; simp (disch := omega) only [p_us, p_uj]) (by rw [e2', p_us])
    rw [e2'] at b4' b5' b6'
    have e3' : I2' (k' + 1) = I' (k' + 1) := by rw [b2' _ (by omega), e2']
    have f4' : I2' 63 4 = t_B (t_tp H' (I' (k' + 1))) := by rw [b3' 4 (by decide) (by decide) (by decide), p_uj _ _ _ _ _ (by decide), p_uj _ _ _ _ _ (by decide), a4']
    obtain ⟨I3', d1', d2', d3', d4', d5', d6'⟩ := s_feedThose (I' := I2') hB' (t_HIk hH1' (fun c' h1' h2' => by rw [b2' c' (by omega), p_uc _ _ _ _ _ (by omega), p_uc _ _ _ _ _ (by omega)])) hW' hk' (by rw [e3']; exact hS') (by rw [e3']; exact f4') (by rw [e3']; exact b6')
    rw [e3'] at d4' d5' d6'
    unfold J_X1_lay_78
    have f0' : q_u2 I1' 63 5 (t_ck H' (I' (k' + 1))) 63 4 = t_B (t_tp H' (I' (k' + 1))) := by rw [p_uj _ _ _ _ _ (by decide), a4']
    simp (disch := omega) only [↓ce_63 hB', rf_63 hB', ↓nn_40, ↓nn_65, ↓nn_66, p_bs, p_rq0, p_rq1, p_rz0, p_rz1, p_us, p_un, p_uj, ↓reduceIte, t_bcE, f0', show t_bc (t_B (t_tp H' (I' (k' + 1)))) = t_pn H' (I' (k' + 1)) from rfl, a4']
    rw [b1']
    simp (disch := omega) only [↓ce_63 hB', rf_63 hB', ↓nn_40, ↓nn_65, ↓nn_66, p_bs, p_rq0, p_rq1, p_rz0, p_rz1, p_us, p_un, p_uj, ↓reduceIte, d1']
    refine ⟨_, rfl, ?_, ?_, ?_, ?_, ?_, ?_, ?_, d4', d5', d6'⟩
    · intro c' h1' h2'; rw [d2' c' h1' h2', b2' c' h1', p_uc _ _ _ _ _ h1', p_uc _ _ _ _ _ h1', a2' c' h1', p_uc _ _ _ _ _ h1']
    · rw [d3' 4 (by decide) (by decide), f4']
    · rw [d3' 5 (by decide) (by decide), b3' 5 (by decide) (by decide) (by decide), p_uj _ _ _ _ _ (by decide), p_us]
    · rw [d3' 6 (by decide) (by decide), b3' 6 (by decide) (by decide) (by decide), p_us]
    · rw [d3' 7 (by decide) (by decide), b4']
    · rw [d3' 8 (by decide) (by decide), b5']
    · rw [d3' 9 (by decide) (by decide), b6']
  unfold F_X1_lay
  simp (disch := omega) only [↓ce_63 hB', rf_63 hB', ↓nn_40, ↓nn_65, ↓nn_66, p_bs, p_rq0, p_rq1, p_rz0, p_rz1, p_us, p_un, p_uj, ↓reduceIte, a1', p_st hk' hB', e1']
  by_cases c1' : I' (k' + 1) 3 = -1
  · simp only [c1', ↓reduceIte]
    simp (disch := omega) only [↓ce_39 hB', rf_39 hB', ↓nn_41, ↓nn_42, ↓nn_43, ↓nn_44, p_bs, p_rq0, p_rq1, p_rz0, p_rz1, p_us, p_un, p_uj, ↓reduceIte, s_dishByDay hB' hH1' hW'.1]
    exact key' _ (by rw [t_ck, if_pos c1'])
  · simp only [c1', ↓reduceIte]
    exact key' _ (by rw [t_ck, if_neg c1'])
end PD'
