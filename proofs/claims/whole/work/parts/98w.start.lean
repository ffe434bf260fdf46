/-! the start -/
def yd_d0 : yd_M := ([.inl 11], [], [], [])
def yd_d1 : yd_M := match yd_X11_init 36 yd_d0 with
  | some z' => z'.2
  | none => yd_d0
def yd_d2 : yd_M := yd_push yd_d1 (.inl 12)
def yd_d3 : yd_M := match yd_X12_init 87 yd_d2 with
  | some z' => z'.2
  | none => yd_d0
def yd_d4 : yd_M := yd_push yd_d3 (.inr (2, 1))
theorem yd_r1 : yd_X11_init 36 yd_d0 = some ((), yd_d1) := by
  have h' : (yd_X11_init 36 yd_d0).isSome = true := by decide +kernel
  unfold yd_d1
  cases e' : yd_X11_init 36 yd_d0 with
  | none => rw [e'] at h'; cases h'
  | some z' => rfl
theorem yd_r3 : yd_X12_init 87 yd_d2 = some ((), yd_d3) := by
  have h' : (yd_X12_init 87 yd_d2).isSome = true := by decide +kernel
  unfold yd_d3
  cases e' : yd_X12_init 87 yd_d2 with
  | none => rw [e'] at h'; cases h'
  | some z' => rfl
theorem yd_l1 : yd_d1.1.length = 51 ∧ yd_d3.1.length = 72 ∧ yd_d4.1.length = 73 := by decide +kernel
theorem yd_sh4 : ∀ z' ∈ p_shT, 36 ≤ z'.1 → yd_d4.1[z'.1 - 36]? = some z'.2 := by decide +kernel
theorem yd_rf4 : ∀ z' ∈ p_rfT, 36 ≤ z'.1 → yd_lk 0 yd_d4.2.2.2 z'.1 z'.2.1 = z'.2.2 := by decide +kernel
theorem yd_in4 : ∀ z' ∈ ([(36, 14, 0), (36, 15, 0), (36, 16, -1), (36, 17, 1), (36, 18, 0), (37, 1, 0), (87, 6, 0), (39, 4, 0), (39, 5, 0), (87, 26, 0), (87, 27, 0), (54, 3, -1), (57, 6, 0), (57, 5, 0), (87, 42, 0), (57, 4, 0), (87, 49, 0), (83, 3, 0), (87, 45, 0), (87, 7, 0), (87, 34, -1), (87, 30, 0), (87, 35, 1)] : List (Nat × Nat × Int32)), yd_lk 0 yd_d4.2.1 z'.1 z'.2.1 = z'.2.2 := by decide +kernel
theorem yd_z54 : ∀ j', j' < 31 → j' ≠ 3 → yd_lk 0 yd_d4.2.1 54 j' = 0 := by decide +kernel
theorem yd_z100 : ∀ j', j' < 37 → yd_lk 0 yd_d4.2.1 100 j' = 0 := by decide +kernel
theorem yd_z92 : ∀ j', j' < 3 → yd_lk 0 yd_d4.2.1 92 j' = yd_lk 0 yd_d4.2.1 40 j' := by decide +kernel
theorem yd_x4 : yd_lk 0 yd_d4.2.2.2 63 3 = 0 ∧ yd_lk 0 yd_d4.2.2.2 36 13 = 86 ∧ yd_lk 0 yd_d4.2.2.2 85 0 = 87 ∧ yd_d4.1[85 - 36]? = some (.inl 10) ∧ yd_d4.1[86 - 36]? = some (.inr (0, 48)) := by decide +kernel
section YS'
variable {B' : q_Mem}
theorem yd_sh4E (hB' : B'.2.2.2.length = 36) (d' : yd_M) (k' : Nat) (hk' : 36 ≤ k') : (yd_mk B' d').2.2.2[k']? = d'.1[k' - 36]? := by
  show (B'.2.2.2 ++ d'.1)[k']? = _
  rw [List.getElem?_append_right (by omega), hB']
theorem yd_I4 (d' : yd_M) (k' j' : Nat) (hk' : 36 ≤ k') : (yd_mk B' d').1 k' j' = yd_lk 0 d'.2.1 k' j' := by
  show yd_fn 0 B'.1 d'.2.1 k' j' = _
  unfold yd_fn
  rw [if_neg (by omega)]
theorem yd_R4 (d' : yd_M) (k' j' : Nat) (hk' : 36 ≤ k') : (yd_mk B' d').2.2.1 k' j' = yd_lk 0 d'.2.2.2 k' j' := by
  show yd_fn 0 B'.2.2.1 d'.2.2.2 k' j' = _
  unfold yd_fn
  rw [if_neg (by omega)]
theorem v_start (hB' : B'.2.2.2.length = 36) (hs' : ∀ z' ∈ p_shT, z'.1 < 36 → B'.2.2.2[z'.1]? = some z'.2) (hr' : ∀ z' ∈ p_rfT, z'.1 < 36 → B'.2.2.1 z'.1 z'.2.1 = z'.2.2) (hS' : ∀ k', k' < 34 → B'.1 k' = t_stc k') : ∃ A', v_V A' (yd_mk B' yd_d4).1 (yd_mk B' yd_d4).2 := by
  obtain ⟨I', hI'⟩ : ∃ I', I' = (yd_mk B' yd_d4).1 := ⟨_, rfl⟩
  obtain ⟨X', hX'⟩ : ∃ X', X' = (yd_mk B' yd_d4).2 := ⟨_, rfl⟩
  rw [← hI', ← hX']
  have gi' : ∀ k' j', 36 ≤ k' → I' k' j' = yd_lk 0 yd_d4.2.1 k' j' := fun k' j' hk' => by rw [hI']; exact yd_I4 _ _ _ hk'
  have gr' : ∀ k' j', 36 ≤ k' → X'.2.1 k' j' = yd_lk 0 yd_d4.2.2.2 k' j' := fun k' j' hk' => by rw [hX']; exact yd_R4 _ _ _ hk'
  have gs' : ∀ k', 36 ≤ k' → X'.2.2[k']? = yd_d4.1[k' - 36]? := fun k' hk' => by rw [hX']; exact yd_sh4E hB' _ _ hk'
  have fi' : ∀ z' ∈ ([(36, 14, 0), (36, 15, 0), (36, 16, -1), (36, 17, 1), (36, 18, 0), (37, 1, 0), (87, 6, 0), (39, 4, 0), (39, 5, 0), (87, 26, 0), (87, 27, 0), (54, 3, -1), (57, 6, 0), (57, 5, 0), (87, 42, 0), (57, 4, 0), (87, 49, 0), (83, 3, 0), (87, 45, 0), (87, 7, 0), (87, 34, -1), (87, 30, 0), (87, 35, 1)] : List (Nat × Nat × Int32)), 36 ≤ z'.1 → I' z'.1 z'.2.1 = z'.2.2 := fun z' hz' hk' => by rw [gi' _ _ hk']; exact yd_in4 z' hz'
  have fx' : ∀ (i' : Nat) (z' : Nat × Nat × Int32), ([(36, 14, 0), (36, 15, 0), (36, 16, -1), (36, 17, 1), (36, 18, 0), (37, 1, 0), (87, 6, 0), (39, 4, 0), (39, 5, 0), (87, 26, 0), (87, 27, 0), (54, 3, -1), (57, 6, 0), (57, 5, 0), (87, 42, 0), (57, 4, 0), (87, 49, 0), (83, 3, 0), (87, 45, 0), (87, 7, 0), (87, 34, -1), (87, 30, 0), (87, 35, 1)] : List (Nat × Nat × Int32))[i']? = some z' → 36 ≤ z'.1 → I' z'.1 z'.2.1 = z'.2.2 := fun i' z' hz' hk' => fi' z' (List.mem_of_getElem? hz') hk'
  obtain ⟨x1', x2', x3', x4', x5'⟩ := yd_x4
  have hws' : t_WS 85 X' := ⟨by rw [gs' 85 (by decide)]; exact x4', by rw [gr' 85 0 (by decide)]; exact x3', by rw [gs' (85 + 1) (by decide)]; exact x5', by omega, .inl rfl⟩
  refine ⟨((I' 40, I' 41, I' 42, fun _ => 0, 0, 0), false, 0, 0, fun _ => 0, 0, fun _ => 85), ?_⟩
  unfold v_V
  simp only
  refine ⟨⟨fun z' hz' => ?_, fun z' hz' => ?_⟩, fun k' hk' => ?_, ⟨fun _ => 0, 0, by omega, fun i' hi' => absurd hi' (by omega), fx' 5 _ rfl (by decide), fx' 6 _ rfl (by decide), fun i' hi' => absurd hi' (by omega), fun i' hi' => absurd hi' (by omega)⟩, ⟨fx' 4 _ rfl (by decide), ⟨rfl, rfl, rfl, fun i' hi' => absurd hi' (Nat.not_lt_zero i'), fx' 7 _ rfl (by decide), fx' 8 _ rfl (by decide), by show 0 ≤ 5; omega, by show 0 ≤ 6; omega⟩, ⟨fun j' hj' => ?_, fun j' hj' => absurd hj' (Nat.not_lt_zero j'), fun j' hj' => absurd hj' (Nat.not_lt_zero j'), fx' 9 _ rfl (by decide), fx' 10 _ rfl (by decide)⟩, fun e' => absurd e' (by decide), fun _ => ⟨rfl, rfl⟩⟩, ⟨fun e' => absurd e' (by decide), fun _ => ⟨rfl, fun j' h1' h2' => by rw [gi' _ _ (by decide)]; exact yd_z54 j' h1' h2', fx' 11 _ rfl (by decide), fun j' hj' => by rw [gi' _ _ (by decide)]; exact yd_z100 j' hj'⟩⟩, ⟨0, 0, fun _ => 0, by omega, by omega, fx' 12 _ rfl (by decide), fx' 13 _ rfl (by decide), fx' 14 _ rfl (by decide), fun _ => rfl, rfl, fun j' hj' => absurd hj' (by omega)⟩, ⟨false, fx' 15 _ rfl (by decide), fx' 16 _ rfl (by decide), fun e' => absurd e' (by decide)⟩, ⟨0, by omega, fx' 17 _ rfl (by decide), fx' 18 _ rfl (by decide), fun j' hj' => absurd hj' (by omega), fun j' hj' => absurd hj' (by omega)⟩, ⟨by omega, fx' 0 _ rfl (by decide), fx' 19 _ rfl (by decide), fun i' hi' => absurd hi' (by omega)⟩, .inl ⟨fx' 2 _ rfl (by decide), fx' 20 _ rfl (by decide), by rw [gr' _ _ (by decide)]; exact x1'⟩, ⟨by omega, fx' 1 _ rfl (by decide), fx' 21 _ rfl (by decide), fun i' hi' => hws', by rw [gr' 36 13 (by decide)]; exact x2', fun i' hi' => absurd hi' (by omega)⟩, ⟨fun i' j' hi' => absurd hi' (by omega), fun i' j' hi' hj' hij' => absurd hij' (by omega), fun i' j' hi' => absurd hi' (by omega)⟩, ⟨1, by omega, fx' 3 _ rfl (by decide), fx' 22 _ rfl (by decide)⟩⟩
  · by_cases h36' : z'.1 < 36
    · rw [hX']
      show (B'.2.2.2 ++ yd_d4.1)[z'.1]? = _
      rw [List.getElem?_append_left (by omega)]
      exact hs' z' hz' h36'
    · rw [gs' _ (by omega)]; exact yd_sh4 z' hz' (by omega)
  · by_cases h36' : z'.1 < 36
    · rw [hX']
      show yd_fn 0 B'.2.2.1 yd_d4.2.2.2 z'.1 z'.2.1 = _
      unfold yd_fn
      rw [if_pos h36']
      exact hr' z' hz' h36'
    · rw [gr' _ _ (by omega)]; exact yd_rf4 z' hz' (by omega)
  · rw [hI']
    show yd_fn 0 B'.1 yd_d4.2.1 k' = _
    unfold yd_fn
    rw [if_pos (by omega)]
    exact hS' k' hk'
  · show I' 92 j' = I' 40 j'
    rw [gi' _ _ (by decide), gi' _ _ (by decide)]; exact yd_z92 j' hj'
theorem v_start2 (hB' : B'.2.2.2.length = 36) : q_push (yd_mk B' ([], [], [], [])) (.inl 11) = yd_mk B' yd_d0 ∧ F_X11_init 36 (yd_mk B' yd_d0) = some ((), yd_mk B' yd_d1) ∧ q_push (yd_mk B' yd_d1) (.inl 12) = yd_mk B' yd_d2 ∧ F_X12_init 87 (yd_mk B' yd_d2) = some ((), yd_mk B' yd_d3) ∧ q_push (yd_mk B' yd_d3) (.inr (2, 1)) = yd_mk B' yd_d4 ∧ (yd_mk B' ([], [], [], [])).2.2.2.length = 36 ∧ (yd_mk B' yd_d1).2.2.2.length = 87 ∧ (yd_mk B' yd_d3).2.2.2.length = 108 := by
  obtain ⟨l1', l2', l3'⟩ := yd_l1
  exact ⟨yd_pushE hB' _, yi_X11 hB' 36 yd_d0 () yd_d1 yd_r1, yd_pushE hB' _, yi_X12 hB' 87 yd_d2 () yd_d3 yd_r3, yd_pushE hB' _, by rw [yd_len hB']; rfl, by rw [yd_len hB', l1'], by rw [yd_len hB', l2']⟩
end YS'
