def q_mx (x z : Int32) : Int32 := if x < z then z else x
def q_mn (x z : Int32) : Int32 := if z < x then z else x
def q_ab (x : Int32) : Int32 := if 0 ≤ x then x else 0 - x
section QL
variable {K : q_K} {y : MethodName} {cc : ByteArray} {nL : Nat} {rt : Option FieldType} {d mc ms : Nat} {Q : State → Prop} {ce sl : Nat} {M : q_Mem} {pc : Nat} {L : List (Option Value)} {st : List Value}
theorem q_sum8 {G : q_G} (h : (st.map fun v => v.category).sum ≤ 8) : ((st.map (q_cv G)).map fun v => v.category).sum ≤ 8 := by
  have : ((st.map (q_cv G)).map fun v => v.category) = st.map fun v => v.category := by
    rw [List.map_map]
    apply List.map_congr_left
    intro v _
    exact q_cv_cat G v
  rw [this]
  exact h
theorem q_max {idx : Nat} {x z : Int32} (C : q_C K y cc nL rt d mc ms) (hd : decode cc pc = .ok (.invokestatic idx, 3)) (hw : Cond.methodLink y.cls idx Lib.Math.max.name ∈ q_gw) (hw2 : Cond.static Lib.Math.max.name ∈ q_gw) (hw3 : Cond.initialized "java/lang/Math" ∈ q_gw) (hw4 : Cond.code Lib.Math.max.name Lib.Math.max.code 2 (some .int) ∈ q_gw) (hd1 : 1 ≤ d) (h8 : (st.map fun v => v.category).sum ≤ 8) (hcs : ce ≤ mc ∧ sl ≤ ms) (kk : q_W K nL Q ce sl M (pc + 3) L (.int (q_mx x z) :: st)) : q_W K nL Q ce sl M pc L (.int z :: .int x :: st) := by
  obtain ⟨p, l, e, R, s, m, args, below, meth, c, G⟩ := K
  obtain ⟨hx, hb, hr, hml, hown, hlo, hnm, hT, hG, hST, hR1, hR2, hR3, hR4⟩ := C
  intro H locs ls hM hS hl0
  have hts := q_hts hT args
  have h9 := q_sum8 (G := G) h8
  exact va_mmax hx hb (hml.trans hl0.1.symm) hown (hts _ hw) (hts _ hw2) (hts _ hw3) (hts _ hw4) (by omega) (by omega) (by omega) (by omega) hd (kk H locs ls hM hS hl0)
theorem q_min {idx : Nat} {x z : Int32} (C : q_C K y cc nL rt d mc ms) (hd : decode cc pc = .ok (.invokestatic idx, 3)) (hw : Cond.methodLink y.cls idx Lib.Math.min.name ∈ q_gw) (hw2 : Cond.static Lib.Math.min.name ∈ q_gw) (hw3 : Cond.initialized "java/lang/Math" ∈ q_gw) (hw4 : Cond.code Lib.Math.min.name Lib.Math.min.code 2 (some .int) ∈ q_gw) (hd1 : 1 ≤ d) (h8 : (st.map fun v => v.category).sum ≤ 8) (hcs : ce ≤ mc ∧ sl ≤ ms) (kk : q_W K nL Q ce sl M (pc + 3) L (.int (q_mn x z) :: st)) : q_W K nL Q ce sl M pc L (.int z :: .int x :: st) := by
  obtain ⟨p, l, e, R, s, m, args, below, meth, c, G⟩ := K
  obtain ⟨hx, hb, hr, hml, hown, hlo, hnm, hT, hG, hST, hR1, hR2, hR3, hR4⟩ := C
  intro H locs ls hM hS hl0
  have hts := q_hts hT args
  have h9 := q_sum8 (G := G) h8
  refine va_mmin hx hb (hml.trans hl0.1.symm) hown (hts _ hw) (hts _ hw2) (hts _ hw3) (hts _ hw4) (by omega) (by omega) (by omega) (by omega) hd (kk H locs ls hM hS hl0)
theorem q_abs {idx : Nat} {x : Int32} (C : q_C K y cc nL rt d mc ms) (hd : decode cc pc = .ok (.invokestatic idx, 3)) (hw : Cond.methodLink y.cls idx Lib.Math.abs.name ∈ q_gw) (hw2 : Cond.static Lib.Math.abs.name ∈ q_gw) (hw3 : Cond.initialized "java/lang/Math" ∈ q_gw) (hw4 : Cond.code Lib.Math.abs.name Lib.Math.abs.code 1 (some .int) ∈ q_gw) (hd1 : 1 ≤ d) (h8 : (st.map fun v => v.category).sum ≤ 8) (hcs : ce ≤ mc ∧ sl ≤ ms) (kk : q_W K nL Q ce sl M (pc + 3) L (.int (q_ab x) :: st)) : q_W K nL Q ce sl M pc L (.int x :: st) := by
  obtain ⟨p, l, e, R, s, m, args, below, meth, c, G⟩ := K
  obtain ⟨hx, hb, hr, hml, hown, hlo, hnm, hT, hG, hST, hR1, hR2, hR3, hR4⟩ := C
  intro H locs ls hM hS hl0
  have hts := q_hts hT args
  have h9 := q_sum8 (G := G) h8
  exact va_mabs hx hb (hml.trans hl0.1.symm) hown (hts _ hw) (hts _ hw2) (hts _ hw3) (hts _ hw4) (by omega) (by omega) (by omega) (by omega) hd (kk H locs ls hM hS hl0)
/-- switches -/
theorem q_tsIn {x a : Int32} {dflt lo hi off : Int} {offs : Array Int} {len tgt : Nat} (C : q_C K y cc nL rt d mc ms) (hd : decode cc pc = .ok (.tableswitch dflt lo hi offs, len)) (hxa : x = a) (h1 : ¬ a.toInt < lo) (h2 : ¬ hi < a.toInt) (ho : offs[(a.toInt - lo).toNat]? = some off) (ht : (pc : Int) + off = (tgt : Int)) (kk : q_W K nL Q ce sl M tgt L st) : q_W K nL Q ce sl M pc L (.int x :: st) := by
  subst hxa
  obtain ⟨p, l, e, R, s, m, args, below, meth, c, G⟩ := K
  obtain ⟨hx, hb, -⟩ := C
  intro H locs ls hM hS hl0
  exact lv_tableIn hx hb hd h1 h2 ho ht (kk H locs ls hM hS hl0)
theorem q_tsOut {x : Int32} {dflt lo hi : Int} {offs : Array Int} {len tgt : Nat} (C : q_C K y cc nL rt d mc ms) (hd : decode cc pc = .ok (.tableswitch dflt lo hi offs, len)) (h : x.toInt < lo ∨ hi < x.toInt) (ht : (pc : Int) + dflt = (tgt : Int)) (kk : q_W K nL Q ce sl M tgt L st) : q_W K nL Q ce sl M pc L (.int x :: st) := by
  obtain ⟨p, l, e, R, s, m, args, below, meth, c, G⟩ := K
  obtain ⟨hx, hb, -⟩ := C
  intro H locs ls hM hS hl0
  exact lv_tableOut hx hb hd h ht (kk H locs ls hM hS hl0)
theorem q_lks {x : Int32} {dflt off : Int} {ps : Array (Int × Int)} {len tgt : Nat} (C : q_C K y cc nL rt d mc ms) (hd : decode cc pc = .ok (.lookupswitch dflt ps, len)) (hp : (ps.toList.zip (ps.toList.drop 1)).all (fun (a, next) => a.1 < next.1) = true) (ho : Op.lookupswitch.offset ps.toList dflt x.toInt = off) (ht : (pc : Int) + off = (tgt : Int)) (kk : q_W K nL Q ce sl M tgt L st) : q_W K nL Q ce sl M pc L (.int x :: st) := by
  obtain ⟨p, l, e, R, s, m, args, below, meth, c, G⟩ := K
  obtain ⟨hx, hb, -⟩ := C
  intro H locs ls hM hS hl0
  exact lv_lookup hx hb hd hp ho ht (kk H locs ls hM hS hl0)
theorem q_getsN {idx : Nat} {Cn n ds host : String} {v w : Value} (C : q_C K y cc nL rt d mc ms) (hd : decode cc pc = .ok (.getstatic idx, 3)) (hw : Cond.fieldLinkNest y.cls idx Cn n ds host ∈ q_nw) (hz : (Cn, n, ds, v) ∈ q_zs (q_kG K)) (hv : q_cv (q_kG K) w = v) (kk : q_W K nL Q ce sl M (pc + 3) L (w :: st)) : q_W K nL Q ce sl M pc L st := by
  obtain ⟨p, l, e, R, s, m, args, below, meth, c, G⟩ := K
  obtain ⟨hx, hb, hr, hml, hown, hlo, hnm, hT, hG, hST, -⟩ := C
  intro H locs ls hM hS hl0
  refine va_getsN hx hb (hST.2.2.1 _ hz) hS hown (q_nwf hT args hw) (fun x h => h) hd ?_
  have := kk H locs ls hM hS hl0
  rw [← hv]
  exact this
/-- System.arraycopy over rows of ints -/
theorem q_copy {β : Type} {res : β} {idx a b : Nat} {sp dp n : Int32} {f : q_Mem → Option β} (C : q_C K y cc nL rt d mc ms) (hd : decode cc pc = .ok (.invokestatic idx, 3)) (hw : Cond.methodLink y.cls idx arraycopyName ∈ q_gw) (hw2 : Cond.native arraycopyName ∈ q_gw) (hw3 : Cond.static arraycopyName ∈ q_gw) (hw4 : Cond.initialized "java/lang/System" ∈ q_gw) (hd1 : 1 ≤ d) (h8 : (st.map fun v => v.category).sum ≤ 8) (h : q_cp M a sp b dp n f = some res)
    (kk : f (q_sC M b (va_cpy (M.1 a) (M.1 b) sp.toNatClampNeg dp.toNatClampNeg n.toNatClampNeg)) = some res → q_W K nL Q ce sl (q_sC M b (va_cpy (M.1 a) (M.1 b) sp.toNatClampNeg dp.toNatClampNeg n.toNatClampNeg)) (pc + 3) L st) : q_W K nL Q ce sl M pc L (.int n :: .int dp :: .ref b :: .int sp :: .ref a :: st) := by
  obtain ⟨p, l, e, R, s, m, args, below, meth, c, G⟩ := K
  obtain ⟨hx, hb, hr, hml, hown, hlo, hnm, hT, hG, hST, hR1, hR2, hR3, hR4⟩ := C
  unfold q_cp at h
  split at h
  · cases h
  · rename_i hg
    have h1 : ¬ sp < 0 := fun q => hg (Or.inl (Or.inl q))
    have h2 : ¬ dp < 0 := fun q => hg (Or.inl (Or.inr (Or.inl q)))
    have h30 : 0 < n := Classical.byContradiction fun q => hg (Or.inl (Or.inr (Or.inr q)))
    have h3 : ¬ n < 0 := fun q => Int32.lt_irrefl (Int32.lt_trans q h30)
    have hnp : 0 < n.toNatClampNeg := by
      have e1 : (0 : Int32).toInt < n.toInt := Int32.lt_iff_toInt_lt.mp h30
      have e2 : (0 : Int32).toInt = 0 := by decide
      show 0 < n.toInt.toNat
      omega
    have h4 : sp.toNatClampNeg + n.toNatClampNeg ≤ q_ln M 0 a := Nat.not_lt.mp fun q => hg (Or.inr (Or.inl q))
    have h5 : dp.toNatClampNeg + n.toNatClampNeg ≤ q_ln M 0 b := Nat.not_lt.mp fun q => hg (Or.inr (Or.inr (Or.inl q)))
    have ha : q_NS ≤ a := Nat.not_lt.mp fun q => hg (Or.inr (Or.inr (Or.inr (Or.inl q))))
    have hbb : q_NS ≤ b := Nat.not_lt.mp fun q => hg (Or.inr (Or.inr (Or.inr (Or.inr q))))
    have h := kk h
    intro H locs ls hM hS hl0
    obtain ⟨n0, hs0, hn0⟩ := q_ln_pos (M := M) (t := 0) (a := a) (i := sp.toNatClampNeg) (by omega)
    obtain ⟨n1, hs1, hn1⟩ := q_ln_pos (M := M) (t := 0) (a := b) (i := dp.toNatClampNeg) (by omega)
    rw [hn0] at h4
    rw [hn1] at h5
    have hc0 : H[q_ad G a]? = some (vp_cell (G.2.2.2 0) (n0, .inl (M.1 a))) := hM.2.2 a _ ha hs0 (by simp [q_jk])
    have hc1 : H[q_ad G b]? = some (vp_cell (G.2.2.2 0) (n1, .inl (M.1 b))) := hM.2.2 b _ hbb hs1 (by simp [q_jk])
    have hts := q_hts hT args
    have h9 := q_sum8 (G := G) h8
    have nn : ∀ z : Int32, ¬ z < 0 → z.toInt = (z.toNatClampNeg : Int) := by
      intro z hz
      have hz0 : (0 : Int) ≤ z.toInt := by
        have := Int32.not_lt.mp hz
        simpa using Int32.le_iff_toInt_le.mp this
      show z.toInt = ((z.toInt.toNat : Nat) : Int)
      omega
    have hnf : nativeFrameWords "java/lang/System" "arraycopy" 5 ≤ 10 := by decide +kernel
    intro T hTh X
    obtain ⟨-, k0, hk0, cm0, hkk0⟩ := (hT.2.2.2 0 _ rfl).1 n0 (fun j => .int (M.1 a j))
    obtain ⟨-, k1, hk1, cm1, hkk1⟩ := (hT.2.2.2 0 _ rfl).1 n1 (fun j => .int (M.1 b j))
    obtain ⟨vm', X', step⟩ := X.arraycopy hx hown (hts _ hw) (hts _ hw2) (hts _ hw3) (hts _ hw4) (src := q_ad G a) (dst := q_ad G b) (cs := vp_cell (G.2.2.2 0) (n0, .inl (M.1 a))) (cd := vp_cell (G.2.2.2 0) (n1, .inl (M.1 b))) (srcPos := sp) (destPos := dp) (n := n) (by rw [hTh]; exact hc0) (by rw [hTh]; exact hc1)
      (fun _ h => by cases h) (fun _ h => by cases h) (fun h => by cases h) (fun h => by cases h) hk0 hk1 hkk0 hkk1 (by simp [refKind]) h1 h2 h3
      (by rw [nn sp h1, nn n h3]; show ¬ _ > ((arrV (G.2.2.2 0) n0 (fun j => .int (M.1 a j))).slots.size : Int); rw [arrV_size]; omega)
      (by rw [nn dp h2, nn n h3]; show ¬ _ > ((arrV (G.2.2.2 0) n1 (fun j => .int (M.1 b j))).slots.size : Int); rw [arrV_size]; omega)
      (fun vm₁ _ i hi => by
        have e : (vp_cell (G.2.2.2 0) (n0, .inl (M.1 a))).slots.getD (sp.toNatClampNeg + i) .null = .int (M.1 a (sp.toNatClampNeg + i)) := by
          show (arrV (G.2.2.2 0) n0 (fun j => .int (M.1 a j))).slots.getD _ _ = _
          rw [Array.getD_eq_getD_getElem?, arrV_read _ _ (by omega)]
          rfl
        refine ⟨?_, ?_⟩
        · rw [e]
          rfl
        · rw [e]
          exact trivial)
      (g := F0 m pc ls (.int n :: .int dp :: .ref (q_ad G b) :: .int sp :: .ref (q_ad G a) :: st.map (q_cv G))) rfl (by rw [hml]; exact hl0.1) (rest := st.map (q_cv G)) rfl (by rw [hb]; exact hd) (by omega) (by show 2 * 0 + _ + _ ≤ _; omega)
    have e1 : copied (vp_cell (G.2.2.2 0) (n0, .inl (M.1 a))) (vp_cell (G.2.2.2 0) (n1, .inl (M.1 b))) sp dp n = vp_cell (G.2.2.2 0) (n1, .inl (va_cpy (M.1 a) (M.1 b) sp.toNatClampNeg dp.toNatClampNeg n.toNatClampNeg)) := va_copied (fun z => .int z) (G.2.2.2 0) (G.2.2.2 0) (M.1 a) (M.1 b) h4
    rw [e1] at X' step
    generalize hcell : vp_cell (G.2.2.2 0) (n1, .inl (va_cpy (M.1 a) (M.1 b) sp.toNatClampNeg dp.toNatClampNeg n.toNatClampNeg)) = cell at X' step
    have hl : q_ad G b < H.size := (Array.getElem?_eq_some_iff.mp hc1).1
    have hheap : ((T.setVm vm').setCell (q_ad G b) cell).heap = H.setIfInBounds (q_ad G b) cell := by rw [← hTh]; rfl
    have oq : ∀ q : Nat, q ≠ q_ad G b → (H.setIfInBounds (q_ad G b) cell)[q]? = H[q]? := fun q hq => by simp [Array.getElem?_setIfInBounds, Ne.symm hq]
    have hsim : q_Sim G (q_sC M b (va_cpy (M.1 a) (M.1 b) sp.toNatClampNeg dp.toNatClampNeg n.toNatClampNeg)) (H.setIfInBounds (q_ad G b) cell) := by
      refine q_Sim_set hM hbb hs1 rfl q_sC_o ?_ (by simp) oq
      show (H.setIfInBounds (q_ad G b) cell)[q_ad G b]? = some (vp_cell (G.2.2.2 0) (n1, .inl (va_up M.1 b (va_cpy (M.1 a) (M.1 b) sp.toNatClampNeg dp.toNatClampNeg n.toNatClampNeg) b)))
      rw [q_up_eq, hcell]
      simp [Array.getElem?_setIfInBounds, hl]
    obtain ⟨t, a1, b1⟩ := h _ _ ls hsim ⟨by simp; exact hS.1, fun q g1 g2 => by
        rw [oq q (fun e => g2 (by rw [e]; exact q_Aad hbb))]
        exact hS.2.1 q g1 g2, fun q hq => by
        rcases List.mem_append.mp hq with h | h
        · exact hS.2.2 q h
        · obtain ⟨z, -, hz⟩ := List.mem_map.mp h
          rw [← hz]
          exact q_Aad hbb⟩ hl0 _ hheap X'
    exact ⟨t, step t a1, b1⟩
end QL
