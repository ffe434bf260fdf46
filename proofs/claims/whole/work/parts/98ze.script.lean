/-! the script is read through what the start says, not through the memory -/
section QS
variable {K : q_K} {y : MethodName} {cc : ByteArray} {nL : Nat} {rt : Option FieldType} {d mc ms : Nat} {Q : State → Prop} {ce sl : Nat} {M : q_Mem} {pc : Nat} {L : List (Option Value)} {st : List Value} {β : Type} {res : β}
theorem x_ialdS {i : Int32} {f : Int32 → Option β} (C : q_C K y cc nL rt d mc ms) (hd : decode cc pc = .ok (.iaload, 1)) (h : q_sc (q_kG K) i f = some res) (kk : ∀ v, f v = some res → q_W K nL Q ce sl M (pc + 1) L (.int v :: st)) : q_W K nL Q ce sl M pc L (.int i :: .ref 35 :: st) := by
  obtain ⟨p, l, e, R, s, m, args, below, meth, c, G⟩ := K
  intro H locs ls hM hS hl
  obtain ⟨s1, s2, -⟩ := hM.1 35 (by decide)
  have e : q_lI M 0 35 i f = some res := by
    have n1 : q_ln M 0 35 = G.2.1 99 := by
      unfold q_ln
      rw [s1]
      rfl
    unfold q_lI
    rw [n1, s2]
    exact h
  exact x_iald (K := (p, l, _, R, s, m, args, below, meth, c, G)) C hd e kk H locs ls hM hS hl
theorem x_alenS {f : Int32 → Option β} (C : q_C K y cc nL rt d mc ms) (hd : decode cc pc = .ok (.arraylength, 1)) (h : q_scn (q_kG K) f = some res) (kk : ∀ v, f v = some res → q_W K nL Q ce sl M (pc + 1) L (.int v :: st)) : q_W K nL Q ce sl M pc L (.ref 35 :: st) := by
  obtain ⟨p, l, e, R, s, m, args, below, meth, c, G⟩ := K
  intro H locs ls hM hS hl
  obtain ⟨s1, -⟩ := hM.1 35 (by decide)
  have e : q_al M 35 f = some res := by
    unfold q_al
    rw [s1]
    exact h
  exact x_alen (K := (p, l, _, R, s, m, args, below, meth, c, G)) C hd e kk H locs ls hM hS hl
end QS
/-- the invariant does not look at longs -/
theorem v_long {A : v_A} {I : p_I} {X : p_X} (h : v_V A I X) (x : Nat → Nat → Int64) : v_V A I (x, X.2) := h
