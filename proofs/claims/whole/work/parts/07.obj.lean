section QB
variable {K : q_K} {y : MethodName} {cc : ByteArray} {nL : Nat} {rt : Option FieldType} {d mc ms : Nat} {Q : State → Prop} {ce sl : Nat} {M : q_Mem} {pc : Nat} {L : List (Option Value)} {st : List Value}
theorem q_Aad {G : q_G} {a : Nat} (ha : q_NS ≤ a) : q_A G (q_ad G a) := by
  show G.1 ≤ q_ad G a
  rw [q_ad_dyn ha]
  omega
theorem q_iast {β : Type} {res : β} {a : Nat} {i v : Int32} {f : q_Mem → Option β} (C : q_C K y cc nL rt d mc ms) (hd : decode cc pc = .ok (.iastore, 1)) (h : q_tI M a i v f = some res) (kk : f (q_sI M a i.toNatClampNeg v) = some res → q_W K nL Q ce sl (q_sI M a i.toNatClampNeg v) (pc + 1) L st) : q_W K nL Q ce sl M pc L (.int v :: .int i :: .ref a :: st) := by
  obtain ⟨p, l, e, R, s, m, args, below, meth, c, G⟩ := K
  obtain ⟨hx, hb, hr, hml, hown, hlo, hnm, hT, hG, hST, -⟩ := C
  unfold q_tI at h
  split at h
  · cases h
  · rename_i hin0
    have hin : ¬ (i < 0 ∨ q_ln M 0 a ≤ i.toNatClampNeg) := fun q => hin0 (Or.inl q)
    have ha : q_NS ≤ a := Nat.not_lt.mp fun q => hin0 (Or.inr q)
    have hlt : i.toNatClampNeg < q_ln M 0 a := Nat.not_le.mp fun q => hin (Or.inr q)
    obtain ⟨n, hs, hn⟩ := q_ln_pos hlt
    intro H locs ls hM hS hl0
    rw [hn] at hin
    have hP := q_arrP hM ha hs
    refine W.iast hx hb (hP 0 _ rfl) ((hT.2.2.2 0 _ rfl).1 n (fun j => .int (M.1 a j))) (fun q => by cases q) (by show ¬ (i < 0 ∨ (arrV _ _ _).slots.size ≤ _); rw [arrV_size]; exact hin) rfl rfl hd fun H1 e1 z oq => ?_
    refine kk h H1 _ ls (q_Sim_set hM ha hs rfl q_sI_o ?_ z oq) (hS.put z oq (q_Aad ha)) hl0
    show H1[q_ad G a]? = some (vp_cell _ _)
    rw [e1]
    show some ((vp_cell (G.2.2.2 0) (n, .inl (M.1 a))).setSlot _ _) = some (vp_cell (G.2.2.2 0) (n, .inl ((q_sI M a i.toNatClampNeg v).1 a)))
    rw [vp_cell_i, vp_cell_i, arrV_store]
    congr 2
    funext q
    by_cases hq : q = i.toNatClampNeg
    · subst hq
      simp [updV, q_sI, q_u2, va_up]
    · simp [updV, q_sI, q_u2, va_up, hq]
theorem q_bast {β : Type} {res : β} {a : Nat} {i v : Int32} {f : q_Mem → Option β} (C : q_C K y cc nL rt d mc ms) (hd : decode cc pc = .ok (.bastore, 1)) (h : q_tB M a i v f = some res) (kk : f (q_sI M a i.toNatClampNeg v.toInt8.toInt32) = some res → q_W K nL Q ce sl (q_sI M a i.toNatClampNeg v.toInt8.toInt32) (pc + 1) L st) : q_W K nL Q ce sl M pc L (.int v :: .int i :: .ref a :: st) := by
  obtain ⟨p, l, e, R, s, m, args, below, meth, c, G⟩ := K
  obtain ⟨hx, hb, hr, hml, hown, hlo, hnm, hT, hG, hST, -⟩ := C
  unfold q_tB at h
  split at h
  · cases h
  · rename_i hin0
    have hin : ¬ (i < 0 ∨ q_ln M 1 a ≤ i.toNatClampNeg) := fun q => hin0 (Or.inl q)
    have ha : q_NS ≤ a := Nat.not_lt.mp fun q => hin0 (Or.inr q)
    have hlt : i.toNatClampNeg < q_ln M 1 a := Nat.not_le.mp fun q => hin (Or.inr q)
    obtain ⟨n, hs, hn⟩ := q_ln_pos hlt
    intro H locs ls hM hS hl0
    rw [hn] at hin
    have hP := q_arrP hM ha hs
    refine W.bast hx hb (hP 0 _ rfl) ((hT.2.2.2 1 _ rfl).1 n (fun j => .int (M.1 a j))) (fun q => by cases q) (by show ¬ (i < 0 ∨ (arrV _ _ _).slots.size ≤ _); rw [arrV_size]; exact hin) rfl rfl hd fun H1 e1 z oq => ?_
    refine kk h H1 _ ls (q_Sim_set hM ha hs rfl q_sI_o ?_ z oq) (hS.put z oq (q_Aad ha)) hl0
    show H1[q_ad G a]? = some (vp_cell _ _)
    rw [e1]
    show some ((vp_cell (G.2.2.2 1) (n, .inl (M.1 a))).setSlot _ _) = some (vp_cell (G.2.2.2 1) (n, .inl ((q_sI M a i.toNatClampNeg v.toInt8.toInt32).1 a)))
    rw [narrow_byte, vp_cell_i, vp_cell_i, arrV_store]
    congr 2
    funext q
    by_cases hq : q = i.toNatClampNeg
    · subst hq
      simp [updV, q_sI, q_u2, va_up]
    · simp [updV, q_sI, q_u2, va_up, hq]
theorem q_last {β : Type} {res : β} {a : Nat} {i : Int32} {v : Int64} {f : q_Mem → Option β} (C : q_C K y cc nL rt d mc ms) (hd : decode cc pc = .ok (.lastore, 1)) (h : q_tL M a i v f = some res) (kk : f (q_sL M a i.toNatClampNeg v) = some res → q_W K nL Q ce sl (q_sL M a i.toNatClampNeg v) (pc + 1) L st) : q_W K nL Q ce sl M pc L (.long v :: .int i :: .ref a :: st) := by
  obtain ⟨p, l, e, R, s, m, args, below, meth, c, G⟩ := K
  obtain ⟨hx, hb, hr, hml, hown, hlo, hnm, hT, hG, hST, -⟩ := C
  unfold q_tL at h
  split at h
  · cases h
  · rename_i hin0
    have hin : ¬ (i < 0 ∨ q_ln M 2 a ≤ i.toNatClampNeg) := fun q => hin0 (Or.inl q)
    have ha : q_NS ≤ a := Nat.not_lt.mp fun q => hin0 (Or.inr q)
    have hlt : i.toNatClampNeg < q_ln M 2 a := Nat.not_le.mp fun q => hin (Or.inr q)
    obtain ⟨n, hs, hn⟩ := q_ln_pos hlt
    intro H locs ls hM hS hl0
    rw [hn] at hin
    have hP := q_arrP hM ha hs
    refine W.last hx hb (hP 0 _ rfl) ((hT.2.2.2 2 _ rfl).1 n (fun j => .long (M.2.1 a j))) (fun q => by cases q) (by show ¬ (i < 0 ∨ (arrV _ _ _).slots.size ≤ _); rw [arrV_size]; exact hin) rfl rfl hd fun H1 e1 z oq => ?_
    refine kk h H1 _ ls (q_Sim_set hM ha hs rfl q_sL_o ?_ z oq) (hS.put z oq (q_Aad ha)) hl0
    show H1[q_ad G a]? = some (vp_cell _ _)
    rw [e1]
    show some ((vp_cell (G.2.2.2 2) (n, .inr (.inl (M.2.1 a)))).setSlot _ _) = some (vp_cell (G.2.2.2 2) (n, .inr (.inl ((q_sL M a i.toNatClampNeg v).2.1 a))))
    rw [vp_cell_l, vp_cell_l, arrV_store]
    congr 2
    funext q
    by_cases hq : q = i.toNatClampNeg
    · subst hq
      simp [updV, q_sL, q_u2, va_up]
    · simp [updV, q_sL, q_u2, va_up, hq]
theorem q_alen {β : Type} {res : β} {a : Nat} {f : Int32 → Option β} (C : q_C K y cc nL rt d mc ms) (hd : decode cc pc = .ok (.arraylength, 1)) (h : q_al M a f = some res) (kk : ∀ (t n : Nat), M.2.2.2[a]? = some (.inr (t, n)) → f (Int32.ofNat n) = some res → q_W K nL Q ce sl M (pc + 1) L (.int (Int32.ofNat n) :: st)) : q_W K nL Q ce sl M pc L (.ref a :: st) := by
  obtain ⟨p, l, e, R, s, m, args, below, meth, c, G⟩ := K
  obtain ⟨hx, hb, hr, hml, hown, hlo, hnm, hT, hG, hST, -⟩ := C
  unfold q_al at h
  split at h
  · rename_i t n hs
    split at h
    · rename_i ht
      intro H locs ls hM hS hl0
      have hz := kk t n hs h H locs ls hM hS hl0
      rcases Nat.lt_or_ge a q_NS with ha | ha
      · obtain ⟨z1, z2, -⟩ := hM.1 a ha
        rw [hs] at z1
        have hv : q_ad G a = G.2.1 a := by unfold q_ad; rw [if_pos ha]
        show W p l e R s m args below meth c H locs ce sl Q (F0 m pc ls (.ref (q_ad G a) :: st.map (q_cv G)))
        rw [hv]
        rcases q_stc_arr (Option.some.inj z1).symm ha (by omega) with ⟨g1, g2, g3, -⟩ | ⟨j, g1, g2, -, g3, -⟩ | ⟨g1, -, g3, -⟩
        · exact va_tlen hx hb (hST.1 a g1) hS (by rw [← g3]) hd hz
        · subst g2
          exact va_tlen hx hb (hST.2.1 j g1).2.2.2 hS (by rw [← g3]) hd hz
        · subst g1
          exact va_tlen hx hb hST.2.2.2.2.2.2 hS (by rw [← g3]) hd hz
      · have hP := q_arrP hM ha hs (by omega)
        rcases (show t = 0 ∨ t = 1 ∨ t = 2 ∨ t = 3 ∨ t = 4 ∨ t = 5 by omega) with e1 | e1 | e1 | e1 | e1 | e1 <;> subst e1
        · exact va_alen hx hb hT.2.2 hP 0 0 rfl rfl rfl hd hz
        · exact va_alen hx hb hT.2.2 hP 0 1 rfl rfl rfl hd hz
        · exact va_alen hx hb hT.2.2 hP 0 2 rfl rfl rfl hd hz
        · exact va_alen hx hb hT.2.2 hP 0 3 rfl rfl rfl hd hz
        · exact va_alen hx hb hT.2.2 hP 0 4 rfl rfl rfl hd hz
        · exact va_alen hx hb hT.2.2 hP 0 5 rfl rfl rfl hd hz
    · cases h
  · cases h
/-! ends -/
theorem q_end {G : q_G} {s : State} {H : Heap} {locs : List Loc} {M : q_Mem} {args : Array Value} (hG : G.1 ≤ s.heap.size) (hM : q_Sim G M H) (hS : va_S (q_A G) s.heap H locs) (ov : Option Value) (t : State) (ht : t.heap = H) : q_Qc G ov M args s (.returned (ov.map (q_cv G))) t := by
  refine ⟨rfl, by rw [ht]; exact hM, by rw [ht]; exact hS.1, fun q hq => ?_⟩
  rw [ht]
  exact hS.2.1 q (by omega) (fun h => by have : G.1 ≤ q := h; omega)
theorem q_iret {x : Int32} {res : Int32 × q_Mem} (C : q_C K y cc nL rt d mc ms) (hd : decode cc pc = .ok (.ireturn, 1)) (hrt : rt = some .int) (hc : ce ≤ mc) (hs : sl ≤ ms) (h : (x, M) = res) : q_W K nL (q_Q K (some (.int res.1)) res.2 mc ms) ce sl M pc L [.int x] := by
  subst h
  obtain ⟨p, l, e, R, s, m, args, below, meth, c, G⟩ := K
  obtain ⟨hx, hb, hr, hml, hown, hlo, hnm, hT, hG, hST, -⟩ := C
  intro H locs ls hM hS hl0
  exact W.widen hc hs (W.iret hx hb (hr.trans hrt) (fun t ht _ => q_end hG hM hS (some (.int x)) t ht) hS.2.2 hd hlo)
theorem q_zret {x : Int32} {res : Int32 × q_Mem} (C : q_C K y cc nL rt d mc ms) (hd : decode cc pc = .ok (.ireturn, 1)) (hrt : rt = some .boolean) (hc : ce ≤ mc) (hs : sl ≤ ms) (hz : x = 0 ∨ x = 1) (h : (x, M) = res) : q_W K nL (q_Q K (some (.int res.1)) res.2 mc ms) ce sl M pc L [.int x] := by
  subst h
  obtain ⟨p, l, e, R, s, m, args, below, meth, c, G⟩ := K
  obtain ⟨hx, hb, hr, hml, hown, hlo, hnm, hT, hG, hST, -⟩ := C
  intro H locs ls hM hS hl0
  exact W.widen hc hs (W.zret hx hb (hr.trans hrt) (by rcases hz with e1 | e1 <;> subst e1 <;> rfl) (fun t ht _ => q_end hG hM hS (some (.int x)) t ht) hS.2.2 hd hlo)
theorem q_lret {x : Int64} {res : Int64 × q_Mem} (C : q_C K y cc nL rt d mc ms) (hd : decode cc pc = .ok (.lreturn, 1)) (hrt : rt = some .long) (hc : ce ≤ mc) (hs : sl ≤ ms) (h : (x, M) = res) : q_W K nL (q_Q K (some (.long res.1)) res.2 mc ms) ce sl M pc L [.long x] := by
  subst h
  obtain ⟨p, l, e, R, s, m, args, below, meth, c, G⟩ := K
  obtain ⟨hx, hb, hr, hml, hown, hlo, hnm, hT, hG, hST, -⟩ := C
  intro H locs ls hM hS hl0
  exact W.widen hc hs (W.lret hx hb (hr.trans hrt) (fun t ht _ => q_end hG hM hS (some (.long x)) t ht) hS.2.2 hd hlo)
theorem q_vret {res : Unit × q_Mem} (C : q_C K y cc nL rt d mc ms) (hd : decode cc pc = .ok (.return_, 1)) (hrt : rt = none) (hc : ce ≤ mc) (hs : sl ≤ ms) (h : ((), M) = res) : q_W K nL (q_Q K none res.2 mc ms) ce sl M pc L [] := by
  subst h
  obtain ⟨p, l, e, R, s, m, args, below, meth, c, G⟩ := K
  obtain ⟨hx, hb, hr, hml, hown, hlo, hnm, hT, hG, hST, -⟩ := C
  intro H locs ls hM hS hl0
  exact W.widen hc hs (W.vret hx hb (hr.trans hrt) (fun t ht _ => q_end hG hM hS none t ht) hS.2.2 hd hlo)
theorem q_aret {x : Nat} {res : Nat × q_Mem} {ty : FieldType} (C : q_C K y cc nL rt d mc ms) (hd : decode cc pc = .ok (.areturn, 1)) (hrt : rt = some ty) (hty : (∃ n, ty = .object n) ∨ ∃ t, ty = .array t) (hc : ce ≤ mc) (hs : sl ≤ ms) (h : (x, M) = res) : q_W K nL (q_Q K (some (q_rc res.1)) res.2 mc ms) ce sl M pc L [q_rc x] := by
  subst h
  obtain ⟨p, l, e, R, s, m, args, below, meth, c, G⟩ := K
  obtain ⟨hx, hb, hr, hml, hown, hlo, hnm, hT, hG, hST, -⟩ := C
  intro H locs ls hM hS hl0
  exact W.widen hc hs (W.aret hx hb (hr.trans hrt) hty (by cases x <;> simp [q_rc, q_cv]) (fun t ht _ => q_end hG hM hS (some (q_rc x)) t ht) hS.2.2 hd hlo)
/-! a method's entry -/
theorem q_sl_len (G : q_G) : ∀ (av : List Value), (lg_sl (av.map (q_cv G))).length = (lg_sl av).length
  | [] => rfl
  | v :: vs => by
    have e1 : lg_sl ((v :: vs).map (q_cv G)) = (if (q_cv G v).category = 2 then [Slot.val (q_cv G v), Slot.second] else [Slot.val (q_cv G v)]) ++ lg_sl (vs.map (q_cv G)) := rfl
    have e2 : lg_sl (v :: vs) = (if v.category = 2 then [Slot.val v, Slot.second] else [Slot.val v]) ++ lg_sl vs := rfl
    rw [e1, e2, List.length_append, List.length_append, q_sl_len G vs, q_cv_cat]
    split <;> rfl
theorem q_ent_mem (G : q_G) : ∀ (av : List Value) (n i j : Nat) (v : Value), (q_ent av n)[j]? = some (some v) → (i + j, q_cv G v) ∈ lv_args i (av.map (q_cv G))
  | [], n, i, j, v, h => by
    unfold q_ent at h
    rw [List.getElem?_replicate] at h
    split at h <;> cases h
  | w :: vs, n, i, j, v, h => by
    unfold q_ent at h
    show (i + j, q_cv G v) ∈ (i, q_cv G w) :: lv_args (if (q_cv G w).category = 2 then i + 2 else i + 1) (vs.map (q_cv G))
    rw [q_cv_cat]
    split at h
    · rename_i hc
      rw [if_pos hc]
      match j, h with
      | 0, h => cases h; exact List.mem_cons_self
      | 1, h => cases h
      | j + 2, h =>
        have := q_ent_mem G vs (n - 2) (i + 2) j v h
        rw [show i + (j + 2) = i + 2 + j by omega]
        exact List.mem_cons_of_mem _ this
    · rename_i hc
      rw [if_neg hc]
      match j, h with
      | 0, h => cases h; exact List.mem_cons_self
      | j + 1, h =>
        have := q_ent_mem G vs (n - 1) (i + 1) j v h
        rw [show i + (j + 1) = i + 1 + j by omega]
        exact List.mem_cons_of_mem _ this
end QB
theorem q_blind {G : q_G} {av : List Value} {M : q_Mem} : FrameBlind (q_Pc G av M) := fun a U g mk h => by
  have hW : U.WarmedH (U.calling g mk a).vm := State.WarmedH.refl U
  exact ⟨h.1, h.2.1, q_TB_warm hW h.2.2.1, q_ST_go hW (fun _ _ _ => rfl) h.2.2.2⟩
/-- a contract out of a walk from the entry -/
theorem q_enter {l : Launch} {G : q_G} {y : MethodName} {cc : ByteArray} {nL : Nat} {rt : Option FieldType} {d mc ms : Nat} {av : List Value} {M M' : q_Mem} {ov : Option Value} (L0 : List (Option Value)) (hy : plainName y.cls = true) (hav : (lg_sl av).length ≤ nL) (hL0 : q_ent av nL = L0)
    (body : ∀ K : q_K, q_C K y cc nL rt d mc ms → q_W K nL (q_Q K ov M' mc ms) 0 0 M 0 L0 []) : q_Met l G y cc nL rt d mc ms av M ov M' := by
  refine Met.ofW (cc := cc) (maxL := nL) (ret := rt) hy rfl ?_
  intro p e s m args below meth c s₁ B hml hv
  obtain ⟨rfl, hM, hT, hST⟩ := hv
  have hG : G.1 ≤ s.heap.size := by rw [hM.2.1]; omega
  have hlen : (lg_sl (av.map (q_cv G))).length ≤ nL := by rw [q_sl_len]; exact hav
  have hl := lv_entry (av.map (q_cv G)) (n := nL) hlen
  rw [lg_entry_eq]
  refine body (p, l, e, q_rm d mc ms, s, m, (av.map (q_cv G)).toArray, below, meth, c, G) ⟨B.exec, B.bytes, B.returns, hml, findClass_of_methodNamed B.named, B.notSynchronized, (name_of_methodNamed B.named B.method).1, hT, hG, hST, Nat.le_refl _, Nat.le_refl _, Nat.le_refl _, Nat.le_refl _⟩ s.heap [] _ hM va_S.rf ⟨hl.1, hl.2.1, fun j v hj => hl.2.2 (j, q_cv G v) ?_⟩
  rw [← hL0] at hj
  have := q_ent_mem G av nL 0 j v hj
  rw [Nat.zero_add] at this
  exact this
/-! calls -/
def q_lM (own : String) (idx : Nat) (y : MethodName) : Prop := (Cond.methodLink own idx y ∈ q_gw) ∨ ∃ host, Cond.methodLinkNest own idx y host ∈ q_nw
def q_mB (y : MethodName) (cc : ByteArray) (nL : Nat) (rt : Option FieldType) (n : Nat) : Prop := Cond.initialized y.cls ∈ q_gw ∧ Cond.code y cc nL rt ∈ q_gw ∧ y.cls ≠ "java/lang/invoke/MethodHandle" ∧ y.cls ≠ "java/lang/invoke/VarHandle" ∧ (parseMethodDescriptor y.desc).map (fun d => d.parameters.length) = some n
def q_mV (y : MethodName) (cc : ByteArray) (nL : Nat) (rt : Option FieldType) (n : Nat) : Prop := q_mB y cc nL rt n ∧ Cond.instanceMethod y ∈ q_gw ∧ Cond.selects y.cls y y ∈ q_gw
def q_mS (y : MethodName) (cc : ByteArray) (nL : Nat) (rt : Option FieldType) (n : Nat) : Prop := q_mB y cc nL rt n ∧ Cond.static y ∈ q_gw
def q_mI (y : MethodName) (cc : ByteArray) (nL : Nat) (n : Nat) : Prop := q_mB y cc nL none n ∧ Cond.instanceMethod y ∈ q_gw ∧ y.name = "<init>"
section QC
variable {K : q_K} {y : MethodName} {cc : ByteArray} {nL : Nat} {rt : Option FieldType} {d mc ms : Nat} {Q : State → Prop} {ce sl : Nat} {M : q_Mem} {pc : Nat} {L : List (Option Value)} {st st0 : List Value}
theorem q_ofRun {p : Program} {l : Launch} {e : Env} {R : Room} {s : State} {m : MethodId} {args : Array Value} {below : List Frame} {meth : Method} {c : Code} {G : q_G} {H : Heap} {locs : List Loc} {mc' ms' : Nat} {ls : Array Slot} {rest stk : List Value} {ov : Option Value} {M1 : q_Mem} {a : Array Value} (hG : G.1 ≤ s.heap.size)
    (hr : va_Run p l e R s m args below meth c H locs ce sl mc' ms' (F0 m pc ls stk) (rest.map (q_cv G)) (q_Qc G ov M1 a) (q_A G)) (hS : va_S (q_A G) s.heap H locs) (hl : q_LH G ls nL L)
    (kk : q_W (p, l, e, R, s, m, args, below, meth, c, G) nL Q (ce + mc') (sl + ms') M1 (pc + 3) L (ov.toList ++ rest)) : W p l e R s m args below meth c H locs ce sl Q (F0 m pc ls stk) := by
  intro T hT X
  obtain ⟨v, st₀, t, T', Lo, h0, X', hL, e1, e2, ⟨hv, hM1, hz, hk⟩, go⟩ := hr T hT X
  cases hv
  rw [h0] at hz hk
  have hS' : va_S (q_A G) s.heap T'.heap (locs ++ Lo) := ⟨Nat.le_trans hS.1 (by rw [e1]; exact hz), fun q h1 h2 => by
      rw [e1, hk q (Nat.not_le.mp h2)]
      exact hS.2.1 q h1 h2, fun q hq => by
      rcases List.mem_append.mp hq with h | h
      · exact hS.2.2 q h
      · exact hL q h⟩
  have kk' := kk T'.heap (locs ++ Lo) ls (by rw [e1]; exact hM1) hS' hl T' rfl X'
  obtain ⟨t2, a1, b1⟩ := kk'
  refine ⟨t2, go t2 ?_, b1⟩
  have e3 : (ov.map (q_cv G)).toList ++ rest.map (q_cv G) = (ov.toList ++ rest).map (q_cv G) := by cases ov <;> rfl
  show Steps _ _ _ (T'.setTop (F0 m (pc + 3) ls ((ov.map (q_cv G)).toList ++ rest.map (q_cv G)))) t2
  rw [e3]
  exact a1
theorem q_st8 {G : q_G} {m : MethodId} {ls : Array Slot} {x : List Value} (h : (st.map fun v => v.category).sum ≤ 8) : 2 * (F0 m pc ls x).monitorRoom + ((st.map (q_cv G)).map fun v => v.category).sum ≤ 8 := by
  have : ((st.map (q_cv G)).map fun v => v.category) = st.map fun v => v.category := by
    rw [List.map_map]
    apply List.map_congr_left
    intro v _
    exact q_cv_cat G v
  rw [this]
  exact lv_room h
theorem q_good1 {w : Cond} (h : w ∈ q_gw) : GoodIn q_gw [w] := fun x hx => by
  have : x = w := by simpa using hx
  subst this
  exact ⟨h, q_gw_good h⟩
theorem q_room {R : Room} {d d' nL' : Nat} (h1 : d ≤ R.frames) (h2 : 64 * d ≤ R.locals) (h : d' + 1 ≤ d ∧ nL' ≤ 45) (mc' ms' : Nat) : (q_rm d' mc' ms').frames + 1 ≤ R.frames ∧ 8 + (nL' + 11) + (q_rm d' mc' ms').locals ≤ R.locals := by
  constructor
  · show d' + 1 ≤ R.frames
    omega
  · show 8 + (nL' + 11) + 64 * d' ≤ R.locals
    omega
theorem q_pre {G : q_G} {s : State} {H : Heap} {locs : List Loc} {av : List Value} (hT : q_TB G s) (hST : q_ST G s) (hM : q_Sim G M H) (hS : va_S (q_A G) s.heap H locs) : ∀ U : State, U.heap = H → s.WarmedH U.vm → q_Pc G av M (av.map (q_cv G)).toArray U := fun U hU hW =>
  ⟨rfl, by rw [hU]; exact hM, q_TB_warm hW hT, q_ST_go hW (fun a h1 h2 => by rw [hU]; exact hS.2.1 a h1 h2) hST⟩
theorem q_callS {y' : MethodName} {cc' : ByteArray} {nL' n d' mc' ms' idx : Nat} {rt' : Option FieldType} {av : List Value} {ov : Option Value} {M1 : q_Mem} (C : q_C K y cc nL rt d mc ms) (hd : decode cc pc = .ok (.invokestatic idx, 3)) (lk : q_lM y.cls idx y') (mt : q_mS y' cc' nL' rt' n) (hM : q_Met K.2.1 (q_kG K) y' cc' nL' rt' d' mc' ms' av M ov M1) (hst : st0 = av.reverse ++ st) (hn : av.length = n) (h8 : (st.map fun v => v.category).sum ≤ 8) (hdd : d' + 1 ≤ d ∧ nL' ≤ 45) (hcs : ce + mc' ≤ mc ∧ sl + ms' ≤ ms) (kk : q_W K nL Q (ce + mc') (sl + ms') M1 (pc + 3) L (ov.toList ++ st)) : q_W K nL Q ce sl M pc L st0 := by
  subst hst
  obtain ⟨p, l, e, R, s, m, args, below, meth, c, G⟩ := K
  obtain ⟨hx, hb, hr, hml, hown, hlo, hnm, hT, hG, hST, hR1, hR2, hR3, hR4⟩ := C
  obtain ⟨⟨m1, m2, m3, m4, m5⟩, m6⟩ := mt
  intro H locs ls hM0 hS hl0
  have hts := q_hts hT args
  have hpre : PreS s H (q_Pc G av M) (av.map (q_cv G)) := ⟨q_blind, q_pre hT hST hM0 hS⟩
  have hstk : (F0 m pc ls ((av.reverse ++ st).map (q_cv G))).stack = (av.map (q_cv G)).reverse ++ st.map (q_cv G) := by
    show (av.reverse ++ st).map (q_cv G) = _
    rw [List.map_append, List.map_reverse]
  refine q_ofRun (a := (av.map (q_cv G)).toArray) (rest := st) hG ?_ hS hl0 kk
  rcases lk with lk | ⟨host, lk⟩
  · exact va_runS (As := av.map (q_cv G)) (rest := st.map (q_cv G)) ⟨hx, hb, hml, hown, hts⟩ hM ⟨callB_of n hts (q_good1 m2) rfl rfl rfl (hts _ m1) (hts _ lk) ⟨m3, m4, m5⟩ (q_room hR1 hR2 hdd mc' ms'), hts _ m6⟩ hpre rfl (by rw [List.length_map]; exact hn) hl0.1 hstk (q_st8 h8) hd ⟨by omega, by omega⟩
  · exact va_runSN (As := av.map (q_cv G)) (rest := st.map (q_cv G)) ⟨hx, hb, hml, hown, hts⟩ hM ⟨va_cnB n hts (q_good1 m2) rfl rfl rfl (hT.2.1 _ lk) (hts _ m1) ⟨m3, m4, m5⟩ (q_room hR1 hR2 hdd mc' ms'), hts _ m6, trivial⟩ hpre rfl (by rw [List.length_map]; exact hn) hl0.1 hstk (q_st8 h8) hd ⟨by omega, by omega⟩
theorem q_callI {y' : MethodName} {cc' : ByteArray} {nL' n d' mc' ms' idx k : Nat} {av : List Value} {M1 : q_Mem} (C : q_C K y cc nL rt d mc ms) (hd : decode cc pc = .ok (.invokespecial idx, 3)) (lk : q_lM y.cls idx y') (mt : q_mI y' cc' nL' n) (hM : q_Met K.2.1 (q_kG K) y' cc' nL' none d' mc' ms' (.ref k :: av) M none M1) (hst : st0 = av.reverse ++ .ref k :: st) (hn : av.length = n) (h8 : (st.map fun v => v.category).sum ≤ 8) (hdd : d' + 1 ≤ d ∧ nL' ≤ 45) (hcs : ce + mc' ≤ mc ∧ sl + ms' ≤ ms) (kk : q_W K nL Q (ce + mc') (sl + ms') M1 (pc + 3) L st) : q_W K nL Q ce sl M pc L st0 := by
  subst hst
  obtain ⟨p, l, e, R, s, m, args, below, meth, c, G⟩ := K
  obtain ⟨hx, hb, hr, hml, hown, hlo, hnm, hT, hG, hST, hR1, hR2, hR3, hR4⟩ := C
  obtain ⟨⟨m1, m2, m3, m4, m5⟩, m6, m7⟩ := mt
  intro H locs ls hM0 hS hl0
  have hts := q_hts hT args
  have hpre : PreS s H (q_Pc G (.ref k :: av) M) (.ref (q_ad G k) :: av.map (q_cv G)) := ⟨q_blind, q_pre (av := .ref k :: av) hT hST hM0 hS⟩
  have hstk : (F0 m pc ls ((av.reverse ++ .ref k :: st).map (q_cv G))).stack = (av.map (q_cv G)).reverse ++ .ref (q_ad G k) :: st.map (q_cv G) := by
    show (av.reverse ++ .ref k :: st).map (q_cv G) = _
    rw [List.map_append, List.map_reverse]
    rfl
  refine q_ofRun (a := (Value.ref (q_ad G k) :: av.map (q_cv G)).toArray) (ov := none) (rest := st) hG ?_ hS hl0 kk
  rcases lk with lk | ⟨host, lk⟩
  · exact va_runI (As := av.map (q_cv G)) (rest := st.map (q_cv G)) ⟨hx, hb, hml, hown, hts⟩ hM ⟨callB_of n hts (q_good1 m2) rfl rfl rfl (hts _ m1) (hts _ lk) ⟨m3, m4, m5⟩ (q_room hR1 hR2 hdd mc' ms'), m7, hts _ m6⟩ hpre rfl (by rw [List.length_map]; exact hn) hl0.1 hstk (q_st8 h8) hd ⟨by omega, by omega⟩
  · exact va_runIN (As := av.map (q_cv G)) (rest := st.map (q_cv G)) ⟨hx, hb, hml, hown, hts⟩ hM ⟨va_cnB n hts (q_good1 m2) rfl rfl rfl (hT.2.1 _ lk) (hts _ m1) ⟨m3, m4, m5⟩ (q_room hR1 hR2 hdd mc' ms'), m7, hts _ m6⟩ hpre rfl (by rw [List.length_map]; exact hn) hl0.1 hstk (q_st8 h8) hd ⟨by omega, by omega⟩
theorem q_callV {y' : MethodName} {cc' : ByteArray} {nL' n d' mc' ms' idx k ci : Nat} {rt' : Option FieldType} {av : List Value} {ov : Option Value} {M1 : q_Mem} (C : q_C K y cc nL rt d mc ms) (hd : decode cc pc = .ok (.invokevirtual idx, 3)) (lk : q_lM y.cls idx y') (mt : q_mV y' cc' nL' rt' n) (hci : ∃ r, q_cl[ci]? = some r ∧ r.1 = y'.cls) (hk : M.2.2.2[k]? = some (.inl ci)) (hM : q_Met K.2.1 (q_kG K) y' cc' nL' rt' d' mc' ms' (.ref k :: av) M ov M1) (hst : st0 = av.reverse ++ .ref k :: st) (hn : av.length = n) (h8 : (st.map fun v => v.category).sum ≤ 8) (hdd : d' + 1 ≤ d ∧ nL' ≤ 45) (hcs : ce + mc' ≤ mc ∧ sl + ms' ≤ ms) (kk : q_W K nL Q (ce + mc') (sl + ms') M1 (pc + 3) L (ov.toList ++ st)) : q_W K nL Q ce sl M pc L st0 := by
  subst hst
  obtain ⟨p, l, e, R, s, m, args, below, meth, c, G⟩ := K
  obtain ⟨hx, hb, hr, hml, hown, hlo, hnm, hT, hG, hST, hR1, hR2, hR3, hR4⟩ := C
  obtain ⟨⟨m1, m2, m3, m4, m5⟩, m6, m7⟩ := mt
  obtain ⟨r, hc, hr1⟩ := hci
  intro H locs ls hM0 hS hl0
  have hts := q_hts hT args
  have hkd : q_NS ≤ k := q_dyn hM0 hk hc
  have hP : va_P G.2.2.1 q_cl [(q_ad G k, .inr (ci, q_fs G M k ci))] H := fun i q hq => by
    cases i with
    | zero => cases hq; exact hM0.2.2 k _ hkd hk (by simp [q_jk])
    | succ i => cases hq
  have hrec := va_recv hT.2.2 hP hc (q0 := 0) rfl
  rw [hr1] at hrec
  have hpre : PreV s H y'.cls (q_ad G k) (q_Pc G (.ref k :: av) M) (av.map (q_cv G)) := ⟨q_blind, hrec, q_pre (av := .ref k :: av) hT hST hM0 hS⟩
  have hstk : (F0 m pc ls ((av.reverse ++ .ref k :: st).map (q_cv G))).stack = (av.map (q_cv G)).reverse ++ .ref (q_ad G k) :: st.map (q_cv G) := by
    show (av.reverse ++ .ref k :: st).map (q_cv G) = _
    rw [List.map_append, List.map_reverse]
    rfl
  refine q_ofRun (a := (Value.ref (q_ad G k) :: av.map (q_cv G)).toArray) (rest := st) hG ?_ hS hl0 kk
  rcases lk with lk | ⟨host, lk⟩
  · exact va_runV (As := av.map (q_cv G)) (rest := st.map (q_cv G)) ⟨hx, hb, hml, hown, hts⟩ hM ⟨callB_of n hts (q_good1 m2) rfl rfl rfl (hts _ m1) (hts _ lk) ⟨m3, m4, m5⟩ (q_room hR1 hR2 hdd mc' ms'), hts _ m6, hts _ m7⟩ hpre rfl (by rw [List.length_map]; exact hn) hl0.1 hstk (q_st8 h8) hd ⟨by omega, by omega⟩
  · exact va_runVN (As := av.map (q_cv G)) (rest := st.map (q_cv G)) ⟨hx, hb, hml, hown, hts⟩ hM ⟨va_cnB n hts (q_good1 m2) rfl rfl rfl (hT.2.1 _ lk) (hts _ m1) ⟨m3, m4, m5⟩ (q_room hR1 hR2 hdd mc' ms'), hts _ m6, hts _ m7⟩ hpre rfl (by rw [List.length_map]; exact hn) hl0.1 hstk (q_st8 h8) hd ⟨by omega, by omega⟩
end QC
