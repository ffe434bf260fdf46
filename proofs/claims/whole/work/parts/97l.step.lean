/-! steps of a week -/
def t_cwf (s' : Nat → Int32) (j' : Nat) : Int32 := if j' < 24 then (if j' % 4 = 0 then s' (13 + j' / 4) else if j' % 4 = 1 then s' (19 + j' / 4) else if j' % 4 = 2 then s' (25 + j' / 4) else t_b (t_bit (s' 4) (j' / 4))) else if j' < 32 then (if j' % 2 = 0 then s' (5 + (j' - 24) / 2) else s' (9 + (j' - 24) / 2)) else if j' = 32 then s' 1 else if j' = 33 then s' 2 else if j' = 34 then s' 3 + 1 else s' 0
theorem t_cw (s' : Nat → Int32) : t_RS s' (t_cwf s') := by
  refine ⟨⟨fun g' hg' => ⟨?_, ?_, ?_, ?_⟩, rfl, rfl, rfl⟩, fun j' hj' => ⟨?_, ?_⟩, rfl⟩
  · unfold t_cwf
    rw [if_pos (by omega), if_pos (by omega), show 4 * g' / 4 = g' by omega]
  · unfold t_cwf
    rw [if_pos (by omega), if_neg (by omega), if_pos (by omega), show (4 * g' + 1) / 4 = g' by omega]
  · unfold t_cwf
    rw [if_pos (by omega), if_neg (by omega), if_neg (by omega), if_pos (by omega), show (4 * g' + 2) / 4 = g' by omega]
  · unfold t_cwf
    rw [if_pos (by omega), if_neg (by omega), if_neg (by omega), if_neg (by omega), show (4 * g' + 3) / 4 = g' by omega]
  · unfold t_cwf
    rw [if_neg (by omega), if_pos (by omega), if_pos (by omega), show (24 + 2 * j' - 24) / 2 = j' by omega]
  · unfold t_cwf
    rw [if_neg (by omega), if_pos (by omega), if_neg (by omega), show (24 + 2 * j' + 1 - 24) / 2 = j' by omega]
/-- a row as it is kept -/
def t_GS (H' : t_H) (s' : Nat → Int32) : Prop := t_WF H' s' ∧ (∀ g', g' < 6 → ∃ n', s' (13 + g') = Int32.ofNat n' ∧ n' ≤ 99) ∧ ∃ D', s' 0 = Int32.ofNat D' ∧ D' ≤ 999
def t_w0 (w' : Nat → Int32) (D' j' : Nat) : Int32 := if j' < 36 then w' j' else if j' = 36 then Int32.ofNat (min D' 60) else 0
section PR'
variable {s' w' : Nat → Int32} {H' : t_H} {L' : t_L}
theorem t_vaC {f' f'' : Nat → Int32} {i' j' : Nat} {v' v'' : Int32} (h' : f' j' = f'' j') (hv' : v' = v'') : va_up f' i' v' j' = va_up f'' i' v'' j' := by
  rw [p_va, p_va, h', hv']
theorem t_RSd (hng' : t_ng H' ≤ 6) (hS' : t_WF H' s') (h99' : ∀ g', g' < 6 → ∃ n', s' (13 + g') = Int32.ofNat n' ∧ n' ≤ 99) {D' : Nat} (hD' : s' 0 = Int32.ofNat D') (hD'' : D' ≤ 999) (hR' : t_RS s' w') {op' : Nat} (h1' : 1 ≤ op') (hop' : op' < 6) {a' b' : Int32} (hcan : t_can H' s' op' a' b' = true) : t_WF H' (t_do H' L' s' op' a' b') ∧ t_do H' L' s' op' a' b' 0 = Int32.ofNat D' ∧ (∀ g', g' < 6 → ∃ n', t_do H' L' s' op' a' b' (13 + g') = Int32.ofNat n' ∧ n' ≤ 99) ∧ t_RS (t_do H' L' s' op' a' b') (t_dw w' op' a' b') := by
  have hw0' : ∀ j', j' < 36 → t_w0 w' D' j' = w' j' := fun j' hj' => if_pos hj'
  have h' : v_R H' s' (t_w0 w' D') (fun _ => 0) D' := ⟨hS', t_RSk hR' hw0', hD', hD'', h99', rfl, fun i' hi' q' hq' => by unfold t_w0; rw [if_neg (by omega), if_neg (by omega)]⟩
  obtain ⟨a1', a2', a3', a4', a5', a6'⟩ := v_Rd (L' := L') h' hng' op' h1' hop' a' b' hcan
  refine ⟨a1', a3', a5', t_RSk a2' (fun j' hj' => ?_)⟩
  have ho' : op' = 1 ∨ op' = 2 ∨ op' = 3 ∨ op' = 4 ∨ op' = 5 := by omega
  rcases ho' with rfl | rfl | rfl | rfl | rfl
  · exact t_vaC (hw0' j' hj').symm rfl
  · exact t_vaC (hw0' j' hj').symm (by rw [hw0' 32 (by omega)])
  · exact t_vaC (t_vaC (hw0' j' hj').symm (by rw [hw0' 32 (by omega)])) (by rw [hw0' 33 (by omega)])
  · obtain ⟨g', m', c1', c2', c3', -⟩ := t_can4 hcan hng'
    exact t_vaC (hw0' j' hj').symm (by rw [c3', hw0' (4 * g') (by omega)])
  · exact t_vaC (hw0' j' hj').symm rfl
theorem t_GSd (hW' : t_HW H') (h' : t_GS H' s') {op' : Nat} (hop' : op' < 6) {a' b' : Int32} (hcan : t_can H' s' op' a' b' = true) : t_GS H' (t_do H' L' s' op' a' b') := by
  obtain ⟨hS', h99', D', hD', hD''⟩ := h'
  by_cases e' : op' = 0
  · subst e'
    have hlt' : D' < 999 := by
      simp only [t_can, decide_eq_true_eq, hD'] at hcan
      rw [show (999 : Int32) = Int32.ofNat 999 from rfl, p_lt _ 999 (by omega) (by omega)] at hcan
      exact hcan
    have hps' := t_psW (L' := L') hW' hS' hD' (by omega)
    exact ⟨hps'.1, fun g' hg' => by
      show ∃ n', t_ps H' L' s' (13 + g') = Int32.ofNat n' ∧ n' ≤ 99
      rw [t_ps13 g' hg']; exact h99' g' hg', D' + 1, hps'.2, by omega⟩
  · obtain ⟨a1', a2', a3', a4'⟩ := t_RSd (L' := L') hW'.2.2.2.1 hS' h99' hD' hD'' (t_cw s') (by omega) hop' hcan
    exact ⟨a1', a3', D', a2', hD''⟩
end PR'
section PR'
variable {X' : p_X} {I' : p_I} {H' : t_H} {L' : t_L} {s' : Nat → Int32} {c' : Nat}
theorem s_canStep (hB' : p_B X') (hM' : t_HM H' I') (hng' : t_ng H' ≤ 6) (hc' : t_RK c') (hR' : t_RS s' (I' c')) {r' op' : Nat} (hr' : r' + 2 < 240) (hop' : op' < 5) (h0' : I' 98 r' = Int32.ofNat op') {a' b' : Int32} (ha' : I' 98 (r' + 1) = a') (hb' : I' 98 (r' + 2) = b') : F_X12_canStep 87 c' (Int32.ofNat r') (I', X') = some (t_b (t_can H' s' op' a' b')) := by
  have ho' : op' = 0 ∨ op' = 1 ∨ op' = 2 ∨ op' = 3 ∨ op' = 4 := by omega
  unfold F_X12_canStep
  rcases ho' with rfl | rfl | rfl | rfl | rfl
  · have r35' : I' c' 35 = s' 0 := hR'.1.2.2.2
    simp (disch := omega) only [↓ce_87 hB', rf_87 hB', ↓ce_98 hB', ↓nn_31, ↓nn_33, ↓nn_89, ↓nn_90, ↓nn_91, ↓nn_92, ↓nn_93, ↓nn_94, ↓nn_95, ↓nn_96, ↓nn_97, ↓nn_98, ↓nn_99, ↓nn_100, ↓nn_101, ↓nn_102, ↓nn_103, ↓nn_104, ↓nn_105, ↓nn_106, ↓nn_107, ↓nn_108, p_bs, p_rq0, p_rq1, p_rz0, p_rz1, p_us, p_un, p_uj, ↓reduceIte, p_ar, h0', p_mr hc' hB', r35', show (Int32.ofNat 0 = 0) = True from by decide]
    unfold t_can
    by_cases h' : s' 0 < 999 <;> simp [h', t_b]
  · have h1' := s_canChoose hB' hM' hc' hR' a' b'
    simp (disch := omega) only [↓ce_87 hB', rf_87 hB', ↓ce_98 hB', ↓nn_31, ↓nn_33, ↓nn_89, ↓nn_90, ↓nn_91, ↓nn_92, ↓nn_93, ↓nn_94, ↓nn_95, ↓nn_96, ↓nn_97, ↓nn_98, ↓nn_99, ↓nn_100, ↓nn_101, ↓nn_102, ↓nn_103, ↓nn_104, ↓nn_105, ↓nn_106, ↓nn_107, ↓nn_108, p_bs, p_rq0, p_rq1, p_rz0, p_rz1, p_us, p_un, p_uj, ↓reduceIte, p_ar, h0', ha', h1', t_bq, show (Int32.ofNat 1 = 0) = False from by decide, show (Int32.ofNat 1 = 1) = True from by decide]
  · have h1' := s_canBeIll (H' := H') hB' hc' hR' a' b'
    simp (disch := omega) only [↓ce_87 hB', rf_87 hB', ↓ce_98 hB', ↓nn_31, ↓nn_33, ↓nn_89, ↓nn_90, ↓nn_91, ↓nn_92, ↓nn_93, ↓nn_94, ↓nn_95, ↓nn_96, ↓nn_97, ↓nn_98, ↓nn_99, ↓nn_100, ↓nn_101, ↓nn_102, ↓nn_103, ↓nn_104, ↓nn_105, ↓nn_106, ↓nn_107, ↓nn_108, p_bs, p_rq0, p_rq1, p_rz0, p_rz1, p_us, p_un, p_uj, ↓reduceIte, p_ar, h0', h1', t_bq, show (Int32.ofNat 2 = 0) = False from by decide, show (Int32.ofNat 2 = 1) = False from by decide, show (Int32.ofNat 2 = 2) = True from by decide]
  · have h1' := s_canMakeUp (H' := H') hB' hc' hR' a' b'
    simp (disch := omega) only [↓ce_87 hB', rf_87 hB', ↓ce_98 hB', ↓nn_31, ↓nn_33, ↓nn_89, ↓nn_90, ↓nn_91, ↓nn_92, ↓nn_93, ↓nn_94, ↓nn_95, ↓nn_96, ↓nn_97, ↓nn_98, ↓nn_99, ↓nn_100, ↓nn_101, ↓nn_102, ↓nn_103, ↓nn_104, ↓nn_105, ↓nn_106, ↓nn_107, ↓nn_108, p_bs, p_rq0, p_rq1, p_rz0, p_rz1, p_us, p_un, p_uj, ↓reduceIte, p_ar, h0', h1', t_bq, show (Int32.ofNat 3 = 0) = False from by decide, show (Int32.ofNat 3 = 1) = False from by decide, show (Int32.ofNat 3 = 2) = False from by decide, show (Int32.ofNat 3 = 3) = True from by decide]
  · have h1' := s_canStay hB' hM' hng' hc' hR' a' b'
    simp (disch := omega) only [↓ce_87 hB', rf_87 hB', ↓ce_98 hB', ↓nn_31, ↓nn_33, ↓nn_89, ↓nn_90, ↓nn_91, ↓nn_92, ↓nn_93, ↓nn_94, ↓nn_95, ↓nn_96, ↓nn_97, ↓nn_98, ↓nn_99, ↓nn_100, ↓nn_101, ↓nn_102, ↓nn_103, ↓nn_104, ↓nn_105, ↓nn_106, ↓nn_107, ↓nn_108, p_bs, p_rq0, p_rq1, p_rz0, p_rz1, p_us, p_un, p_uj, ↓reduceIte, p_ar, h0', ha', hb', h1', t_bq, show (Int32.ofNat 4 = 0) = False from by decide, show (Int32.ofNat 4 = 1) = False from by decide, show (Int32.ofNat 4 = 2) = False from by decide, show (Int32.ofNat 4 = 3) = False from by decide]
theorem s_goStep (hB' : p_B X') (hS0' : p_S I') (hM' : t_HM H' I') (hW' : t_HW H') (hS' : t_WF H' s') (hc' : t_RK c') (hR' : t_RS s' (I' c')) (hL' : t_LM L' X' I') {D' : Nat} (hD' : s' 0 = Int32.ofNat D') (hD'' : D' < 2000) (h36' : ∃ n', n' ≤ 60 ∧ I' c' 36 = Int32.ofNat n') {r' op' : Nat} (hr' : r' + 2 < 240) (hop' : op' < 5) (h0' : I' 98 r' = Int32.ofNat op') {a' b' : Int32} (ha' : I' 98 (r' + 1) = a') (hb' : I' 98 (r' + 2) = b') (hcan : t_can H' s' op' a' b' = true) : ∃ J' u', F_X12_goStep 87 c' (Int32.ofNat r') (I', X') = some ((), (J', p_T X' u')) ∧ (∀ x', x' ≠ 87 → x' ≠ 91 → x' ≠ 102 → x' ≠ c' → J' x' = I' x') ∧ (∀ j', ¬ t_m87 j' → J' 87 j' = I' 87 j') ∧ (op' = 0 → t_RS (t_ps H' L' s') (J' c') ∧ t_LU (I' c') (J' c') (t_e3 (t_ds H' s') (t_B (t_fd H' s')) (t_sm (t_ps H' L' s') 6))) ∧ (op' ≠ 0 → (∀ x', x' ≠ c' → J' x' = I' x') ∧ J' c' = t_dw (I' c') op' a' b' ∧ u' = X'.2.1 87 5) := by
  have ho' : op' = 0 ∨ op' = 1 ∨ op' = 2 ∨ op' = 3 ∨ op' = 4 := by omega
  have hc87' : (87 : Nat) ≠ c' := by omega
  unfold F_X12_goStep
  rcases ho' with rfl | rfl | rfl | rfl | rfl
  · obtain ⟨n', hn', h36''⟩ := h36'
    obtain ⟨J', u', k1', k2', k3', k4', k5'⟩ := s_goDay (L' := L') hB' hS0' hM' hW' hS' hc' hR' hL' hD' hD'' hn' h36''
    refine ⟨J', u', ?_, k2', fun j' hj' => k3' j' (by omega) (by omega) (by omega), fun _ => ⟨k4', k5'⟩, fun h' => absurd rfl h'⟩
    simp (disch := omega) only [↓ce_87 hB', rf_87 hB', ↓ce_98 hB', ↓nn_31, ↓nn_33, ↓nn_89, ↓nn_90, ↓nn_91, ↓nn_92, ↓nn_93, ↓nn_94, ↓nn_95, ↓nn_96, ↓nn_97, ↓nn_98, ↓nn_99, ↓nn_100, ↓nn_101, ↓nn_102, ↓nn_103, ↓nn_104, ↓nn_105, ↓nn_106, ↓nn_107, ↓nn_108, p_bs, p_rq0, p_rq1, p_rz0, p_rz1, p_us, p_un, p_uj, ↓reduceIte, p_ar, h0', k1', show (Int32.ofNat 0 = 0) = True from by decide]
  · refine ⟨q_u2 I' c' 34 (1 + a'), X'.2.1 87 5, ?_, fun x' _ _ _ hx' => p_uc _ _ _ _ _ hx', fun j' _ => by rw [p_uc _ _ _ _ _ hc87'], fun h' => absurd h' (by decide), fun _ => ⟨fun x' hx' => p_uc _ _ _ _ _ hx', by rw [p_ur, Int32.add_comm]; rfl, rfl⟩⟩
    rw [p_Ts]
    simp (disch := omega) only [↓ce_87 hB', rf_87 hB', ↓ce_98 hB', ↓nn_31, ↓nn_33, ↓nn_89, ↓nn_90, ↓nn_91, ↓nn_92, ↓nn_93, ↓nn_94, ↓nn_95, ↓nn_96, ↓nn_97, ↓nn_98, ↓nn_99, ↓nn_100, ↓nn_101, ↓nn_102, ↓nn_103, ↓nn_104, ↓nn_105, ↓nn_106, ↓nn_107, ↓nn_108, p_bs, p_rq0, p_rq1, p_rz0, p_rz1, p_us, p_un, p_uj, ↓reduceIte, p_mr hc' hB', p_ar, h0', ha', show (Int32.ofNat 1 = 0) = False from by decide, show (Int32.ofNat 1 = 1) = True from by decide]
  · refine ⟨q_u2 I' c' 32 (I' c' 32 + 1), X'.2.1 87 5, ?_, fun x' _ _ _ hx' => p_uc _ _ _ _ _ hx', fun j' _ => by rw [p_uc _ _ _ _ _ hc87'], fun h' => absurd h' (by decide), fun _ => ⟨fun x' hx' => p_uc _ _ _ _ _ hx', by rw [p_ur]; rfl, rfl⟩⟩
    rw [p_Ts]
    simp (disch := omega) only [↓ce_87 hB', rf_87 hB', ↓ce_98 hB', ↓nn_31, ↓nn_33, ↓nn_89, ↓nn_90, ↓nn_91, ↓nn_92, ↓nn_93, ↓nn_94, ↓nn_95, ↓nn_96, ↓nn_97, ↓nn_98, ↓nn_99, ↓nn_100, ↓nn_101, ↓nn_102, ↓nn_103, ↓nn_104, ↓nn_105, ↓nn_106, ↓nn_107, ↓nn_108, p_bs, p_rq0, p_rq1, p_rz0, p_rz1, p_us, p_un, p_uj, ↓reduceIte, p_mr hc' hB', p_ar, h0', show (Int32.ofNat 2 = 0) = False from by decide, show (Int32.ofNat 2 = 1) = False from by decide, show (Int32.ofNat 2 = 2) = True from by decide]
  · refine ⟨q_u2 (q_u2 I' c' 32 (I' c' 32 - 1)) c' 33 (I' c' 33 - 5), X'.2.1 87 5, ?_, fun x' _ _ _ hx' => by rw [p_uc _ _ _ _ _ hx', p_uc _ _ _ _ _ hx'], fun j' _ => by rw [p_uc _ _ _ _ _ hc87', p_uc _ _ _ _ _ hc87'], fun h' => absurd h' (by decide), fun _ => ⟨fun x' hx' => by rw [p_uc _ _ _ _ _ hx', p_uc _ _ _ _ _ hx'], by rw [p_ur, p_ur]; rfl, rfl⟩⟩
    rw [p_Ts]
    unfold F_X12_makesUp
    simp (disch := omega) only [↓ce_87 hB', rf_87 hB', ↓ce_98 hB', ↓nn_31, ↓nn_33, ↓nn_89, ↓nn_90, ↓nn_91, ↓nn_92, ↓nn_93, ↓nn_94, ↓nn_95, ↓nn_96, ↓nn_97, ↓nn_98, ↓nn_99, ↓nn_100, ↓nn_101, ↓nn_102, ↓nn_103, ↓nn_104, ↓nn_105, ↓nn_106, ↓nn_107, ↓nn_108, p_bs, p_rq0, p_rq1, p_rz0, p_rz1, p_us, p_un, p_uj, ↓reduceIte, p_mr hc' hB', p_ar, h0', show (Int32.ofNat 3 = 0) = False from by decide, show (Int32.ofNat 3 = 1) = False from by decide, show (Int32.ofNat 3 = 2) = False from by decide, show (Int32.ofNat 3 = 3) = True from by decide]
  · obtain ⟨g', m', c1', c2', c3', -⟩ := t_can4 hcan hW'.2.2.2.1
    have hng' := hW'.2.2.2.1
    refine ⟨q_u2 I' c' (4 * g' + 0) (I' c' (4 * g' + 0) + b'), X'.2.1 87 5, ?_, fun x' _ _ _ hx' => p_uc _ _ _ _ _ hx', fun j' _ => by rw [p_uc _ _ _ _ _ hc87'], fun h' => absurd h' (by decide), fun _ => ⟨fun x' hx' => p_uc _ _ _ _ _ hx', by rw [p_ur]; unfold t_dw; rw [c3']; rfl, rfl⟩⟩
    rw [p_Ts]
    rw [c2'] at ha'
    simp (disch := omega) only [↓ce_87 hB', rf_87 hB', ↓ce_98 hB', ↓nn_31, ↓nn_33, ↓nn_89, ↓nn_90, ↓nn_91, ↓nn_92, ↓nn_93, ↓nn_94, ↓nn_95, ↓nn_96, ↓nn_97, ↓nn_98, ↓nn_99, ↓nn_100, ↓nn_101, ↓nn_102, ↓nn_103, ↓nn_104, ↓nn_105, ↓nn_106, ↓nn_107, ↓nn_108, p_bs, p_rq0, p_rq1, p_rz0, p_rz1, p_us, p_un, p_uj, ↓reduceIte, p_mr hc' hB', p_ar, h0', ha', hb', show (Int32.ofNat 4 = 0) = False from by decide, show (Int32.ofNat 4 = 1) = False from by decide, show (Int32.ofNat 4 = 2) = False from by decide, show (Int32.ofNat 4 = 3) = False from by decide]
end PR'
