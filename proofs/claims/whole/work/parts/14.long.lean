def q_mxl (x z : Int64) : Int64 := if z < x then x else z
def q_mnl (x z : Int64) : Int64 := if z < x then z else x
section QQ
variable {K : q_K} {y : MethodName} {cc : ByteArray} {nL : Nat} {rt : Option FieldType} {d mc ms : Nat} {Q : State → Prop} {ce sl : Nat} {M : q_Mem} {pc : Nat} {L : List (Option Value)} {st : List Value}
theorem q_maxL {idx : Nat} {x z : Int64} (C : q_C K y cc nL rt d mc ms) (hd : decode cc pc = .ok (.invokestatic idx, 3)) (hw : Cond.methodLink y.cls idx Lib.MathLoose.max_long.x ∈ q_gw) (hw2 : Cond.static Lib.MathLoose.max_long.x ∈ q_gw) (hw3 : Cond.initialized "java/lang/Math" ∈ q_gw) (hw4 : Cond.code Lib.MathLoose.max_long.x Lib.MathLoose.max_long.code 4 (some .long) ∈ q_gw) (hd1 : 1 ≤ d) (h8 : (st.map fun v => v.category).sum ≤ 8) (hcs : ce ≤ mc ∧ sl ≤ ms) (kk : q_W K nL Q ce sl M (pc + 3) L (.long (q_mxl x z) :: st)) : q_W K nL Q ce sl M pc L (.long z :: .long x :: st) := by
  obtain ⟨p, l, e, R, s, m, args, below, meth, c, G⟩ := K
  obtain ⟨hx, hb, hr, hml, hown, hlo, hnm, hT, hG, hST, hR1, hR2, hR3, hR4⟩ := C
  intro H locs ls hM hS hl0
  have hts := q_hts hT args
  have h9 := q_sum8 (G := G) h8
  exact va_mmax_long hx hb (hml.trans hl0.1.symm) hown (hts _ hw) (hts _ hw2) (hts _ hw3) (hts _ hw4) (by omega) (by omega) (by omega) (by omega) hd (kk H locs ls hM hS hl0)
theorem q_minL {idx : Nat} {x z : Int64} (C : q_C K y cc nL rt d mc ms) (hd : decode cc pc = .ok (.invokestatic idx, 3)) (hw : Cond.methodLink y.cls idx Lib.MathLoose.min_long.x ∈ q_gw) (hw2 : Cond.static Lib.MathLoose.min_long.x ∈ q_gw) (hw3 : Cond.initialized "java/lang/Math" ∈ q_gw) (hw4 : Cond.code Lib.MathLoose.min_long.x Lib.MathLoose.min_long.code 4 (some .long) ∈ q_gw) (hd1 : 1 ≤ d) (h8 : (st.map fun v => v.category).sum ≤ 8) (hcs : ce ≤ mc ∧ sl ≤ ms) (kk : q_W K nL Q ce sl M (pc + 3) L (.long (q_mnl x z) :: st)) : q_W K nL Q ce sl M pc L (.long z :: .long x :: st) := by
  obtain ⟨p, l, e, R, s, m, args, below, meth, c, G⟩ := K
  obtain ⟨hx, hb, hr, hml, hown, hlo, hnm, hT, hG, hST, hR1, hR2, hR3, hR4⟩ := C
  intro H locs ls hM hS hl0
  have hts := q_hts hT args
  have h9 := q_sum8 (G := G) h8
  exact va_mmin_long hx hb (hml.trans hl0.1.symm) hown (hts _ hw) (hts _ hw2) (hts _ hw3) (hts _ hw4) (by omega) (by omega) (by omega) (by omega) hd (kk H locs ls hM hS hl0)
end QQ
theorem q_iteT {β : Type} {c : Prop} [Decidable c] {a b : Option β} {r : β} (h : (if c then a else b) = some r) (hc : c) : a = some r := by
  rw [if_pos hc] at h
  exact h
theorem q_iteF {β : Type} {c : Prop} [Decidable c] {a b : Option β} {r : β} (h : (if c then a else b) = some r) (hc : ¬ c) : b = some r := by
  rw [if_neg hc] at h
  exact h
theorem q_ldcSw {K : q_K} {y : MethodName} {cc : ByteArray} {nL : Nat} {rt : Option FieldType} {d mc ms : Nat} {Q : State → Prop} {ce sl : Nat} {M : q_Mem} {pc : Nat} {L : List (Option Value)} {st : List Value} {idx i : Nat} {tx : String} (C : q_C K y cc nL rt d mc ms) (hd : decode cc pc = .ok (.ldc_w idx, 3)) (hi : q_ks[i]? = some (y.cls, idx, tx)) (kk : q_W K nL Q ce sl M (pc + 3) L (.ref (4 + 2 * i) :: st)) : q_W K nL Q ce sl M pc L st := by
  obtain ⟨p, l, e, R, s, m, args, below, meth, c, G⟩ := K
  obtain ⟨hx, hb, hr, hml, hown, hlo, hnm, hT, hG, hST, -⟩ := C
  intro H locs ls hM hS hl0
  have hi15 : i < 15 := (List.getElem?_eq_some_iff.mp hi).1
  have hv : q_ad G (4 + 2 * i) = G.2.1 (4 + 2 * i) := by
    unfold q_ad
    rw [if_pos (by show _ < 36; omega)]
  have hZ := hST.2.2.2.1 i _ hi
  have k := kk H locs ls hM hS hl0
  intro T hTh X
  obtain ⟨t, a1, b1⟩ := k T hTh X
  refine ⟨t, X.ldcStringW hx hown (text := tx) (a := G.2.1 (4 + 2 * i)) hZ.1 hZ.2 (g := F0 m pc ls (st.map (q_cv G))) rfl (by rw [hb]; exact hd) t ?_, b1⟩
  rw [← hv]
  exact a1
