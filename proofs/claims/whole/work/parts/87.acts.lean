/-! acts of the reference -/
section PR'
variable {s' w' : Nat → Int32}
theorem t_RSu3 (h' : t_RS s' w') (a' : Int32) : t_RS (va_up s' 3 a') (va_up w' 34 (a' + 1)) := by
  obtain ⟨⟨r1', r2', r3', r4'⟩, r5', r6'⟩ := h'
  refine ⟨⟨fun g' hg' => ?_, ?_, ?_, ?_⟩, fun j' hj' => ?_, ?_⟩ <;> simp (disch := omega) only [p_vn, p_vs]
  · exact r1' g' hg'
  · exact r2'
  · exact r4'
  · exact r5' j' hj'
  · exact r6'
theorem t_RSu1 (h' : t_RS s' w') (a' : Int32) : t_RS (va_up s' 1 a') (va_up w' 32 a') := by
  obtain ⟨⟨r1', r2', r3', r4'⟩, r5', r6'⟩ := h'
  refine ⟨⟨fun g' hg' => ?_, ?_, ?_, ?_⟩, fun j' hj' => ?_, ?_⟩ <;> simp (disch := omega) only [p_vn, p_vs]
  · exact r1' g' hg'
  · exact r3'
  · exact r4'
  · exact r5' j' hj'
  · exact r6'
theorem t_RSu2 (h' : t_RS s' w') (a' : Int32) : t_RS (va_up s' 2 a') (va_up w' 33 a') := by
  obtain ⟨⟨r1', r2', r3', r4'⟩, r5', r6'⟩ := h'
  refine ⟨⟨fun g' hg' => ?_, ?_, ?_, ?_⟩, fun j' hj' => ?_, ?_⟩ <;> simp (disch := omega) only [p_vn, p_vs]
  · exact r1' g' hg'
  · exact r2'
  · exact r3'
  · exact r4'
  · exact r5' j' hj'
theorem t_RSu13 (h' : t_RS s' w') (a' : Int32) (i' : Nat) (hi' : i' < 6) : t_RS (va_up s' (13 + i') a') (va_up w' (4 * i') a') := by
  obtain ⟨⟨r1', r2', r3', r4'⟩, r5', r6'⟩ := h'
  refine ⟨⟨fun g' hg' => ?_, ?_, ?_, ?_⟩, fun j' hj' => ?_, ?_⟩
  · obtain ⟨q1', q2', q3', q4'⟩ := r1' g' hg'
    by_cases e' : g' = i'
    · subst e'
      simp (disch := omega) only [p_vn, p_vs]
      exact ⟨True.intro, q2', q3', q4'⟩
    · simp (disch := omega) only [p_vn, p_vs]
      exact ⟨q1', q2', q3', q4'⟩
  · simp (disch := omega) only [p_vn]; exact r2'
  · simp (disch := omega) only [p_vn]; exact r3'
  · simp (disch := omega) only [p_vn]; exact r4'
  · simp (disch := omega) only [p_vn]; exact r5' j' hj'
  · simp (disch := omega) only [p_vn]; exact r6'
theorem t_RSu19 (h' : t_RS s' w') (a' : Int32) (i' : Nat) (hi' : i' < 6) : t_RS (va_up s' (19 + i') a') (va_up w' (4 * i' + 1) a') := by
  obtain ⟨⟨r1', r2', r3', r4'⟩, r5', r6'⟩ := h'
  refine ⟨⟨fun g' hg' => ?_, ?_, ?_, ?_⟩, fun j' hj' => ?_, ?_⟩
  · obtain ⟨q1', q2', q3', q4'⟩ := r1' g' hg'
    by_cases e' : g' = i'
    · subst e'
      simp (disch := omega) only [p_vn, p_vs]
      exact ⟨q1', True.intro, q3', q4'⟩
    · simp (disch := omega) only [p_vn, p_vs]
      exact ⟨q1', q2', q3', q4'⟩
  · simp (disch := omega) only [p_vn]; exact r2'
  · simp (disch := omega) only [p_vn]; exact r3'
  · simp (disch := omega) only [p_vn]; exact r4'
  · simp (disch := omega) only [p_vn]; exact r5' j' hj'
  · simp (disch := omega) only [p_vn]; exact r6'
end PR'
def t_dw (w' : Nat → Int32) (op' : Nat) (a' b' : Int32) : Nat → Int32 := match op' with
  | 1 => va_up w' 34 (a' + 1)
  | 2 => va_up w' 32 (w' 32 + 1)
  | 3 => va_up (va_up w' 32 (w' 32 - 1)) 33 (w' 33 - 5)
  | 4 => va_up w' (4 * a'.toNatClampNeg) (w' (4 * a'.toNatClampNeg) + b')
  | _ => va_up w' (4 * a'.toNatClampNeg + 1) b'
section PR'
variable {s' w' lg' : Nat → Int32} {H' : t_H} {L' : t_L}
theorem t_can4 {a' b' : Int32} (h' : t_can H' s' 4 a' b' = true) (hng' : t_ng H' ≤ 6) : ∃ g' m', g' < t_ng H' ∧ a' = Int32.ofNat g' ∧ a'.toNatClampNeg = g' ∧ t_bit (s' 4) g' = false ∧ b' = Int32.ofNat m' ∧ 1 ≤ m' ∧ m' ≤ 9 ∧ ¬ 99 < s' (13 + g') + b' := by
  unfold t_can at h'
  simp only [Bool.and_eq_true, Bool.not_eq_true', decide_eq_false_iff_not] at h'
  obtain ⟨⟨⟨⟨h1', h2'⟩, h3'⟩, h4'⟩, h5'⟩ := h'
  obtain ⟨g', hg', rfl⟩ := t_inrE (by omega) h1'
  rw [p_nat g' (by omega)] at h2' h5'
  have hr' : t_inr b' 10 = true := by
    unfold t_inr
    have e1' : (1 : Int32).toInt = 1 := by decide
    have e9' : (9 : Int32).toInt = 9 := by decide
    have e0' : (0 : Int32).toInt = 0 := rfl
    rw [Int32.lt_iff_toInt_lt, e1'] at h3'
    rw [Int32.lt_iff_toInt_lt, e9'] at h4'
    simp only [Bool.and_eq_true, decide_eq_true_eq, Bool.not_eq_true', decide_eq_false_iff_not, Int32.lt_iff_toInt_lt, e0', p_toI 10 (by decide)]
    omega
  obtain ⟨m', hm', rfl⟩ := t_inrE (by omega) hr'
  refine ⟨g', m', hg', rfl, p_nat g' (by omega), h2', rfl, ?_, by omega, h5'⟩
  have : ¬ Int32.ofNat m' < Int32.ofNat 1 := h3'
  rw [p_lt m' 1 (by omega) (by omega)] at this
  omega
theorem t_can5 {a' b' : Int32} (h' : t_can H' s' 5 a' b' = true) (hng' : t_ng H' ≤ 6) : ∃ g', g' < t_ng H' ∧ a' = Int32.ofNat g' ∧ a'.toNatClampNeg = g' ∧ t_inr b' 4 = true ∧ ¬ s' (19 + g') = b' := by
  unfold t_can at h'
  simp only [Bool.and_eq_true, Bool.not_eq_true', decide_eq_false_iff_not] at h'
  obtain ⟨⟨h1', h2'⟩, h3'⟩ := h'
  obtain ⟨g', hg', rfl⟩ := t_inrE (by omega) h1'
  rw [p_nat g' (by omega)] at h3'
  exact ⟨g', hg', rfl, p_nat g' (by omega), h2', h3'⟩
theorem t_LGw {w'' : Nat → Int32} {D' : Nat} (h' : t_LG D' lg' w') (k' : ∀ j', 36 ≤ j' → w'' j' = w' j') : t_LG D' lg' w'' := ⟨by rw [k' 36 (by omega)]; exact h'.1, fun i' hi' q' hq' => by rw [k' _ (by omega)]; exact h'.2 i' hi' q' hq'⟩
theorem v_Rd {D' : Nat} (h' : v_R H' s' w' lg' D') (hng' : t_ng H' ≤ 6) (op' : Nat) (h1' : 1 ≤ op') (hop' : op' < 6) (a' b' : Int32) (hcan : t_can H' s' op' a' b' = true) : v_R H' (t_do H' L' s' op' a' b') (t_dw w' op' a' b') lg' D' := by
  obtain ⟨⟨w1', w2', w3', w4', w5', w6', w7', w8'⟩, r', d1', d2', d3', l'⟩ := h'
  have r32' : w' 32 = s' 1 := r'.1.2.1
  have r33' : w' 33 = s' 2 := r'.2.2
  match op', h1', hop' with
  | 1, _, _ =>
    have hc' : t_inr a' (t_nd H') = true := by
      simp only [t_can, Bool.and_eq_true] at hcan
      exact hcan.1
    refine ⟨⟨?_, ?_, ?_, ?_, ?_, ?_, ?_, ?_⟩, t_RSu3 r' a', ?_, d2', ?_, ?_⟩
    all_goals first | (show t_LG D' lg' (va_up w' 34 (a' + 1)); exact t_LGw l' (fun j' hj' => p_vn _ _ _ _ (by omega))) | skip
    all_goals simp (disch := omega) only [t_do, p_vn, p_vs]
    · exact w1'
    · exact w2'
    · right
      by_cases hnd' : t_nd H' < 2147483648
      · obtain ⟨d', hd', rfl⟩ := t_inrE hnd' hc'
        exact ⟨d', rfl, hd'⟩
      · exact ⟨a'.toNatClampNeg, by
          have h0' : ¬ a' < 0 := by
            simp only [t_inr, Bool.and_eq_true, Bool.not_eq_true', decide_eq_false_iff_not] at hc'
            exact hc'.1
          have e0' : (0 : Int32).toInt = 0 := rfl
          rw [Int32.lt_iff_toInt_lt, e0'] at h0'
          apply Int32.toInt_inj.mp
          have := Int32.toInt_lt a'
          rw [p_toI _ (by show a'.toInt.toNat < _; omega)]
          show _ = ((a'.toInt.toNat : Nat) : Int)
          omega, by have := Int32.toInt_lt a'; show a'.toInt.toNat < _; omega⟩
    · intro j' hj'; (try simp (disch := omega) only [p_vn]); exact w4' j' hj'
    · intro j' hj'; (try simp (disch := omega) only [p_vn]); exact w5' j' hj'
    · intro j' hj'; (try simp (disch := omega) only [p_vn]); exact w6' j' hj'
    · exact w7'
    · intro g' h1' h2'; (try simp (disch := omega) only [p_vn]); exact w8' g' h1' h2'
    · exact d1'
    · intro j' hj'; (try simp (disch := omega) only [p_vn]); exact d3' j' hj'
  | 2, _, _ =>
    obtain ⟨hh', q1', q2'⟩ := w2'
    have hc' : hh' < 3 := by
      simp only [t_can, decide_eq_true_eq, q1'] at hcan
      rw [show (3 : Int32) = Int32.ofNat 3 from rfl, p_lt hh' 3 (by omega) (by omega)] at hcan
      exact hcan
    refine ⟨⟨?_, ?_, ?_, ?_, ?_, ?_, ?_, ?_⟩, by unfold t_do t_dw; rw [r32']; exact t_RSu1 r' _, ?_, d2', ?_, ?_⟩
    all_goals first | (show t_LG D' lg' (va_up w' 32 (w' 32 + 1)); exact t_LGw l' (fun j' hj' => p_vn _ _ _ _ (by omega))) | skip
    all_goals simp (disch := omega) only [t_do, p_vn, p_vs]
    · exact w1'
    · exact ⟨hh' + 1, by rw [q1']; exact (Int32.ofNat_add hh' 1).symm, by omega⟩
    · exact w3'
    · intro j' hj'; (try simp (disch := omega) only [p_vn]); exact w4' j' hj'
    · intro j' hj'; (try simp (disch := omega) only [p_vn]); exact w5' j' hj'
    · intro j' hj'; (try simp (disch := omega) only [p_vn]); exact w6' j' hj'
    · exact w7'
    · intro g' h1' h2'; (try simp (disch := omega) only [p_vn]); exact w8' g' h1' h2'
    · exact d1'
    · intro j' hj'; (try simp (disch := omega) only [p_vn]); exact d3' j' hj'
  | 3, _, _ =>
    obtain ⟨hh', q1', q2'⟩ := w2'
    have hc' : 0 < hh' := by
      simp only [t_can, Bool.and_eq_true, decide_eq_true_eq, q1'] at hcan
      have := hcan.1
      rw [show (0 : Int32) = Int32.ofNat 0 from rfl, p_lt 0 hh' (by omega) (by omega)] at this
      exact this
    refine ⟨⟨?_, ?_, ?_, ?_, ?_, ?_, ?_, ?_⟩, by unfold t_do t_dw; rw [r32', r33']; exact t_RSu2 (t_RSu1 r' _) _, ?_, d2', ?_, ?_⟩
    all_goals first | (show t_LG D' lg' (va_up (va_up w' 32 (w' 32 - 1)) 33 (w' 33 - 5)); exact t_LGw l' (fun j' hj' => by rw [p_vn _ _ _ _ (by omega), p_vn _ _ _ _ (by omega)])) | skip
    all_goals simp (disch := omega) only [t_do, p_vn, p_vs]
    · exact w1'
    · exact ⟨hh' - 1, by rw [q1']; exact p_osub hh' 1 hc', by omega⟩
    · exact w3'
    · intro j' hj'; (try simp (disch := omega) only [p_vn]); exact w4' j' hj'
    · intro j' hj'; (try simp (disch := omega) only [p_vn]); exact w5' j' hj'
    · intro j' hj'; (try simp (disch := omega) only [p_vn]); exact w6' j' hj'
    · exact w7'
    · intro g' h1' h2'; (try simp (disch := omega) only [p_vn]); exact w8' g' h1' h2'
    · exact d1'
    · intro j' hj'; (try simp (disch := omega) only [p_vn]); exact d3' j' hj'
  | 4, _, _ =>
    obtain ⟨g', m', c1', c2', c3', c4', c5', c6', c7', c8'⟩ := t_can4 hcan hng'
    obtain ⟨n', n1', n2'⟩ := d3' g' (by omega)
    have e1' : s' (13 + g') + b' = Int32.ofNat (n' + m') := by rw [n1', c5']; exact (Int32.ofNat_add n' m').symm
    have hnm' : n' + m' ≤ 99 := by
      rw [e1', show (99 : Int32) = Int32.ofNat 99 from rfl, p_lt 99 (n' + m') (by omega) (by omega)] at c8'
      omega
    have e2' : w' (4 * g') = s' (13 + g') := (r'.1.1 g' (by omega)).1
    have hd' : t_do H' L' s' 4 a' b' = va_up s' (13 + g') (s' (13 + g') + b') := by unfold t_do; rw [c3']; rfl
    have hw' : t_dw w' 4 a' b' = va_up w' (4 * g') (s' (13 + g') + b') := by unfold t_dw; rw [c3', ← e2']; rfl
    rw [hd', hw', e1']
    refine ⟨⟨?_, ?_, ?_, ?_, ?_, ?_, ?_, ?_⟩, t_RSu13 r' _ g' (by omega), ?_, d2', ?_, t_LGw l' (fun j' hj' => p_vn _ _ _ _ (by omega))⟩
    · rw [p_vn _ _ _ _ (by omega)]; exact w1'
    · rw [p_vn _ _ _ _ (by omega)]; exact w2'
    · rw [p_vn _ _ _ _ (by omega)]; exact w3'
    · intro j' hj'; (try simp (disch := omega) only [p_vn]); exact w4' j' hj'
    · intro j' hj'; (try simp (disch := omega) only [p_vn]); exact w5' j' hj'
    · intro j' hj'
      by_cases e' : j' = g'
      · subst e'; rw [p_vs]; exact ⟨_, rfl, by omega⟩
      · simp (disch := omega) only [p_vn]; exact w6' j' hj'
    · rw [p_vn _ _ _ _ (by omega)]; exact w7'
    · intro x' h1' h2'; (try simp (disch := omega) only [p_vn]); exact w8' x' h1' h2'
    · rw [p_vn _ _ _ _ (by omega)]; exact d1'
    · intro j' hj'
      by_cases e' : j' = g'
      · subst e'; rw [p_vs]; exact ⟨_, rfl, by omega⟩
      · simp (disch := omega) only [p_vn]; exact d3' j' hj'
  | 5, _, _ =>
    obtain ⟨g', c1', c2', c3', c4', c5'⟩ := t_can5 hcan hng'
    have hd' : t_do H' L' s' 5 a' b' = va_up s' (19 + g') b' := by unfold t_do; rw [c3']; rfl
    have hw' : t_dw w' 5 a' b' = va_up w' (4 * g' + 1) b' := by unfold t_dw; rw [c3']; rfl
    rw [hd', hw']
    refine ⟨⟨?_, ?_, ?_, ?_, ?_, ?_, ?_, ?_⟩, t_RSu19 r' _ g' (by omega), ?_, d2', ?_, t_LGw l' (fun j' hj' => p_vn _ _ _ _ (by omega))⟩
    · rw [p_vn _ _ _ _ (by omega)]; exact w1'
    · rw [p_vn _ _ _ _ (by omega)]; exact w2'
    · rw [p_vn _ _ _ _ (by omega)]; exact w3'
    · intro j' hj'; (try simp (disch := omega) only [p_vn]); exact w4' j' hj'
    · intro j' hj'; (try simp (disch := omega) only [p_vn]); exact w5' j' hj'
    · intro j' hj'; (try simp (disch := omega) only [p_vn]); exact w6' j' hj'
    · rw [p_vn _ _ _ _ (by omega)]; exact w7'
    · intro x' h1' h2'; (try simp (disch := omega) only [p_vn]); exact w8' x' h1' h2'
    · rw [p_vn _ _ _ _ (by omega)]; exact d1'
    · intro j' hj'; (try simp (disch := omega) only [p_vn]); exact d3' j' hj'
theorem t_ps13 (g' : Nat) (hg' : g' < 6) : t_ps H' L' s' (13 + g') = s' (13 + g') := by
  have hsl' : (s' 0 &&& 3).toNatClampNeg < 4 := t_slL s'
  unfold t_ps
  try simp only
  rw [p_vn _ _ _ _ (by omega), p_vn _ _ _ _ (by omega), t_glF _ _ _ _ _ _ (by omega) (by omega) (by omega)]
  unfold t_p1
  rw [p_vn _ _ _ _ (by omega), p_vn _ _ _ _ (by omega), p_vn _ _ _ _ (by omega)]
theorem t_LGn {lg'' w'' e' : Nat → Int32} {D' : Nat} (h' : t_LG D' lg' w') (hu' : t_LU w' w'' e') (he' : ∀ q', q' < 3 → lg'' (D' % 128 * 3 + q') = e' q') (hl' : ∀ x' q', q' < 3 → x' < D' → D' ≤ x' + 100 → lg'' ((x' % 128) * 3 + q') = lg' ((x' % 128) * 3 + q')) : t_LG (D' + 1) lg'' w'' := by
  obtain ⟨h1', h2'⟩ := h'
  obtain ⟨n', n1', n2', n3'⟩ := hu'
  rw [h1'] at n2'
  have hn' : min D' 60 = n' := p_inj n2' (by omega) (by omega)
  rcases n3' with ⟨a1', a2', a3', a4'⟩ | ⟨a1', a2', a3', a4'⟩
  · have hD' : n' = D' := by omega
    subst hD'
    have e1' : min (n' + 1) 60 = n' + 1 := by omega
    refine ⟨by rw [e1']; exact a2', fun i' hi' q' hq' => ?_⟩
    rw [e1'] at hi' ⊢
    rw [Nat.sub_self, Nat.zero_add]
    by_cases e' : i' = n'
    · subst e'; rw [a4' q' hq', he' q' hq']
    · rw [hl' i' q' hq' (by omega) (by omega)]
      have := h2' i' (by omega) q' hq'
      rw [hn', Nat.sub_self, Nat.zero_add] at this
      rw [← this, show 37 + 3 * i' + q' = 37 + (3 * i' + q') by omega]
      exact a3' _ (by omega)
  · subst a1'
    have e1' : min (D' + 1) 60 = 60 := by omega
    refine ⟨by rw [e1']; exact a2', fun i' hi' q' hq' => ?_⟩
    rw [e1'] at hi' ⊢
    by_cases e' : i' = 59
    · subst e'
      rw [show 37 + 3 * 59 + q' = 214 + q' by omega, a4' q' hq', show D' + 1 - 60 + 59 = D' by omega, he' q' hq']
    · rw [hl' _ q' hq' (by omega) (by omega), show 37 + 3 * i' + q' = 37 + (3 * i' + q') by omega, a3' _ (by omega)]
      have := h2' (i' + 1) (by omega) q' hq'
      rw [hn'] at this
      rw [show 40 + (3 * i' + q') = 37 + 3 * (i' + 1) + q' by omega, this, show D' + 1 - 60 + i' = D' - 60 + (i' + 1) by omega]
end PR'
