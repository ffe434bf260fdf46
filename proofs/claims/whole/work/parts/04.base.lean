/-! THE MEMORY: a whole heap as numbers. A cell has a number; its ints, longs and references (0: null, r + 1: the cell r) by place; its shape: an object of a class, an array of a type and a length. -/
abbrev q_Sh : Type := Nat ⊕ (Nat × Nat)
/-- a cell of which nothing is known -/
def q_jk : q_Sh := .inr (99, 0)
abbrev q_Mem : Type := (Nat → Nat → Int32) × (Nat → Nat → Int64) × (Nat → Nat → Nat) × List q_Sh
/-- the launch's own numbers: where new cells begin, where the static cells are, the classes' numbers and slots, the array classes -/
abbrev q_G : Type := Nat × (Nat → Nat) × va_G × (Nat → ClassId)
def q_NS : Nat := 36
def q_ad (G : q_G) (k : Nat) : Nat := if k < q_NS then G.2.1 k else G.1 + (k - q_NS)
def q_cv (G : q_G) (v : Value) : Value := match v with
  | .ref k => .ref (q_ad G k)
  | w => w
def q_rc (c : Nat) : Value := match c with
  | 0 => .null
  | r + 1 => .ref r
def RXe : String := "java/util/NoSuchElementException"
def TXe : u_T := fun _ => ("", "", "", false)
def q_cl : List vw_C := [(RX0, TX0, 2), (RX1, TX1, 12), (RX2, TX2, 12), (RX3, TX3, 7), (RX4, TX4, 2), (RX5, TX5, 3), (RX6, TX6, 7), (RX7, TX7, 4), (RX8, TX8, 1), (RX9, TX9, 4), (RX10, TX10, 2), (RX11, TX11, 20), (RX12, TX12, 50), (RXe, TXe, 0)]
def q_ty (ci : Nat) : Nat → FieldType := match ci with
  | 0 => tyX0 | 1 => tyX1 | 2 => tyX2 | 3 => tyX3 | 4 => tyX4 | 5 => tyX5 | 6 => tyX6 | 7 => tyX7 | 8 => tyX8 | 9 => tyX9 | 10 => tyX10 | 11 => tyX11 | 12 => tyX12 | _ => fun _ => .int
def q_nf (ci : Nat) : Nat := match q_cl[ci]? with
  | some r => r.2.2
  | none => 0
def q_kd (t : FieldType) : Nat := match t with
  | .long => 1
  | .object _ => 2
  | .array _ => 2
  | _ => 0
def q_at : List FieldType := [.int, .byte, .long, .object RX4, .object RX10, .object RX8]
def q_tys (G : q_G) : List (ClassId × FieldType) := [(G.2.2.2 0, .int), (G.2.2.2 1, .byte), (G.2.2.2 2, .long), (G.2.2.2 3, .object RX4), (G.2.2.2 4, .object RX10), (G.2.2.2 5, .object RX8)]
def q_fv (G : q_G) (M : q_Mem) (k ci j : Nat) : Value := match q_kd (q_ty ci j) with
  | 0 => .int (M.1 k j)
  | 1 => .long (M.2.1 k j)
  | _ => q_cv G (q_rc (M.2.2.1 k j))
def q_fs (G : q_G) (M : q_Mem) (k ci : Nat) : List Value := (List.range (q_nf ci)).map (q_fv G M k ci)
def q_oa (G : q_G) (c : Nat) : Option Nat := match c with
  | 0 => none
  | r + 1 => some (q_ad G r)
def q_ct (G : q_G) (M : q_Mem) (k t : Nat) : (Nat → Int32) ⊕ (Nat → Int64) ⊕ (Nat → UInt32) ⊕ (Nat → UInt64) ⊕ (Nat → Option Nat) := match t with
  | 0 => .inl (M.1 k)
  | 1 => .inl (M.1 k)
  | 2 => .inr (.inl (M.2.1 k))
  | _ => .inr (.inr (.inr (.inr (fun j => q_oa G (M.2.2.1 k j)))))
def q_ce (G : q_G) (M : q_Mem) (k : Nat) (h : q_Sh) : va_E := match h with
  | .inl ci => .inr (ci, q_fs G M k ci)
  | .inr (t, n) => .inl (G.2.2.2 t, n, q_ct G M k t)
/-- the static cells: four rows of numbers, then fifteen texts (the String, its bytes), the formatter (34), the script (35) -/
def q_nums : List (List Int32) := [[0, 3, 1, 0, 9, 3, 0, 99, 20], [0, 20, 12, 0, 9, 2, 0, 3, 0], [0, 20, 0, 1, 20, 7, 0, 3, 0, 0, 9, 3], [0, 1, 0, 0, 2]]
def q_txts : List (List Int32) := [[108, 104, 99], [119, 99, 107], [97, 115, 108, 112], [33, 40], [61, 60, 62], [43, 45], [42, 47], [119, 108, 102, 110, 112, 100], [100, 99, 105, 117, 120], [108, 104, 99], [119, 99, 107], [97, 115, 108, 112], [100, 99, 105, 117, 120], [121], [119, 108, 102, 110, 112, 100]]
def q_stc (G : q_G) (k : Nat) : q_Sh × (Nat → Int32) × (Nat → Nat) := if k < 4 then (.inr (0, (q_nums.getD k []).length), (fun j => (q_nums.getD k []).getD j 0), fun _ => 0)
  else if k = 34 then (q_jk, (fun _ => 0), fun _ => 0)
  else if k = 35 then (.inr (0, G.2.1 99), (fun j => Int32.ofNat (G.2.1 (1000 + j))), fun _ => 0)
  else if k % 2 = 0 then (.inl 14, (fun _ => 0), fun j => if j = 0 then k + 2 else 0)
  else (.inr (1, (q_txts.getD ((k - 5) / 2) []).length), (fun j => (q_txts.getD ((k - 5) / 2) []).getD j 0), fun _ => 0)
/-- the memory tells the heap -/
def q_Sim (G : q_G) (M : q_Mem) (H : Heap) : Prop :=
  (∀ k, k < q_NS → M.2.2.2[k]? = some (q_stc G k).1 ∧ M.1 k = (q_stc G k).2.1 ∧ M.2.2.1 k = (q_stc G k).2.2) ∧ H.size = G.1 + (M.2.2.2.length - q_NS) ∧
  ∀ (k : Nat) (h : q_Sh), q_NS ≤ k → M.2.2.2[k]? = some h → h ≠ q_jk → va_at G.2.2.1 q_cl (q_ad G k, q_ce G M k h) H
def q_A (G : q_G) : Nat → Prop := fun q => G.1 ≤ q
/-- the tables' words that every state keeps, and those of nest mates -/
def q_gw : List Cond := lw_tbl.filter goodWord
def q_isN (w : Cond) : Bool := match w with
  | .fieldLinkNest .. => true
  | .methodLinkNest .. => true
  | .castable .. => true
  | _ => false
def q_nw : List Cond := tables_1.filter q_isN
def q_TB (G : q_G) (U : State) : Prop := (∀ w ∈ q_gw, w.before #[] U = true) ∧ (∀ w ∈ q_nw, va_Nw w U) ∧ va_K G.2.2.1 q_cl (q_tys G) U
/-- statics that are read, and text constants by their places in the pools -/
def q_zs (G : q_G) : List (String × String × String × Value) := [("GongHouse", "RULE_BOUNDS", "[I", .ref (G.2.1 0)), ("GongHouse", "DISH_BOUNDS", "[I", .ref (G.2.1 1)), ("GongHouse", "GUEST_BOUNDS", "[I", .ref (G.2.1 2)), ("GongHouse", "STEP_DIGITS", "[I", .ref (G.2.1 3)), ("java/lang/String", "COMPACT_STRINGS", "Z", .int 1)]
def q_ks : List (String × Nat × String) := [("GongHouse$House", 75, "lhc"), ("GongHouse$House", 81, "wck"), ("GongHouse$House", 86, "aslp"), ("GongHouse$LawReader", 43, "!("), ("GongHouse$LawReader", 53, "=<>"), ("GongHouse$LawReader", 78, "+-"), ("GongHouse$LawReader", 83, "*/"), ("GongHouse$LawReader", 85, "wlfnpd"), ("GongHouse$Week", 33, "dciux"), ("GongHouseModel", 244, "lhc"), ("GongHouseModel", 250, "wck"), ("GongHouseModel", 252, "aslp"), ("GongHouseModel", 257, "dciux"), ("GongHouseModel", 26, "y"), ("GongHouseModel", 32, "wlfnpd")]
def q_ST (G : q_G) (U : State) : Prop :=
  (∀ k, k < 4 → va_T .int (G.2.1 k) (q_nums.getD k []).length (fun j => .int ((q_nums.getD k []).getD j 0)) (q_A G) U U.heap) ∧
  (∀ i, i < 15 → va_O "java/lang/String" (G.2.1 (4 + 2 * i)) (q_A G) U U.heap ∧ va_OF "java/lang/String" "coder" "B" (.int 0) (G.2.1 (4 + 2 * i)) (q_A G) U U.heap ∧ va_OF "java/lang/String" "value" "[B" (.ref (G.2.1 (5 + 2 * i))) (G.2.1 (4 + 2 * i)) (q_A G) U U.heap ∧ va_T .byte (G.2.1 (5 + 2 * i)) (q_txts.getD i []).length (fun j => .int ((q_txts.getD i []).getD j 0)) (q_A G) U U.heap) ∧
  (∀ z ∈ q_zs G, va_Z z.1 z.2.1 z.2.2.1 z.2.2.2 (q_A G) U U.heap) ∧
  (∀ (i : Nat) (z : String × Nat × String), q_ks[i]? = some z → vk_R z.1 z.2.1 z.2.2 (G.2.1 (4 + 2 * i)) U) ∧ (va_AO RX4 U ∧ va_AO RX10 U ∧ va_AO RX8 U) ∧ (va_Z "jdk/internal/util/Preconditions" "SIOOBE_FORMATTER" "Ljava/util/function/BiFunction;" .null (q_A G) U U.heap ∨ va_Z "jdk/internal/util/Preconditions" "SIOOBE_FORMATTER" "Ljava/util/function/BiFunction;" (.ref (G.2.1 34)) (q_A G) U U.heap) ∧ va_T .int (G.2.1 35) (G.2.1 99) (fun j => .int (Int32.ofNat (G.2.1 (1000 + j)))) (q_A G) U U.heap
abbrev q_K : Type := Program × Launch × Env × Room × State × MethodId × Array Value × List Frame × Method × Code × q_G
def q_LH (G : q_G) (ls : Array Slot) (nL : Nat) (L : List (Option Value)) : Prop := ls.size = nL ∧ lv_wf ls ∧ ∀ (i : Nat) (v : Value), L[i]? = some (some v) → ls[i]? = some (.val (q_cv G v))
/-- the machine at pc, with the memory M, the locals L, the operands st, comes to Q -/
def q_W (K : q_K) (nL : Nat) (Q : State → Prop) (ce sl : Nat) (M : q_Mem) (pc : Nat) (L : List (Option Value)) (st : List Value) : Prop := match K with
  | (p, l, e, R, s, m, args, below, meth, c, G) => ∀ (H : Heap) (locs : List Loc) (ls : Array Slot), q_Sim G M H → va_S (q_A G) s.heap H locs → q_LH G ls nL L → W p l e R s m args below meth c H locs ce sl Q (F0 m pc ls (st.map (q_cv G)))
/-- a method's own facts: its code, its class, the tables at its start, its room -/
def q_C (K : q_K) (y : MethodName) (cc : ByteArray) (nL : Nat) (rt : Option FieldType) (d mc ms : Nat) : Prop := match K with
  | (p, l, e, R, s, m, args, below, meth, c, G) => p.tables.exec = Jvm.exec ∧ c.code = cc ∧ meth.sig.returnType = rt ∧ c.maxLocals = nL ∧ s.vm.findClass y.cls = some m.cls ∧ meth.locks = false ∧ meth.name = y.name ∧ q_TB G s ∧ G.1 ≤ s.heap.size ∧ q_ST G s ∧ d ≤ R.frames ∧ 64 * d ≤ R.locals ∧ mc ≤ R.cells ∧ ms ≤ R.slots
def q_kG (K : q_K) : q_G := K.2.2.2.2.2.2.2.2.2.2
def q_u2 {α : Type} (f : Nat → Nat → α) (k j : Nat) (v : α) : Nat → Nat → α := va_up f k (va_up (f k) j v)
def q_sI (M : q_Mem) (k j : Nat) (v : Int32) : q_Mem := (q_u2 M.1 k j v, M.2)
def q_sL (M : q_Mem) (k j : Nat) (v : Int64) : q_Mem := (M.1, q_u2 M.2.1 k j v, M.2.2)
def q_sR (M : q_Mem) (k j : Nat) (c : Nat) : q_Mem := (M.1, M.2.1, q_u2 M.2.2.1 k j c, M.2.2.2)
def q_sC (M : q_Mem) (k : Nat) (f : Nat → Int32) : q_Mem := (va_up M.1 k f, M.2)
def q_push (M : q_Mem) (h : q_Sh) : q_Mem := (va_up M.1 M.2.2.2.length (fun _ => 0), va_up M.2.1 M.2.2.2.length (fun _ => 0), va_up M.2.2.1 M.2.2.2.length (fun _ => 0), M.2.2.2 ++ [h])
/-! what an instruction does to the memory, as a function's step; none: it can't be done -/
section QF
variable {β : Type}
def q_gI (M : q_Mem) (k ci j : Nat) (f : Int32 → Option β) : Option β := if M.2.2.2[k]? = some (.inl ci) then f (M.1 k j) else none
def q_gL (M : q_Mem) (k ci j : Nat) (f : Int64 → Option β) : Option β := if M.2.2.2[k]? = some (.inl ci) then f (M.2.1 k j) else none
def q_gR (M : q_Mem) (k ci j : Nat) (f : Nat → Option β) : Option β := if M.2.2.2[k]? = some (.inl ci) then f (M.2.2.1 k j) else none
def q_nn (c : Nat) (f : Nat → Option β) : Option β := match c with
  | 0 => none
  | r + 1 => f r
def q_pI (M : q_Mem) (k ci j : Nat) (v : Int32) (f : q_Mem → Option β) : Option β := if M.2.2.2[k]? = some (.inl ci) ∧ q_NS ≤ k then f (q_sI M k j v) else none
def q_pZ (M : q_Mem) (k ci j : Nat) (v : Int32) (f : q_Mem → Option β) : Option β := if (M.2.2.2[k]? = some (.inl ci) ∧ q_NS ≤ k) ∧ (v = 0 ∨ v = 1) then f (q_sI M k j v) else none
def q_pL (M : q_Mem) (k ci j : Nat) (v : Int64) (f : q_Mem → Option β) : Option β := if M.2.2.2[k]? = some (.inl ci) ∧ q_NS ≤ k then f (q_sL M k j v) else none
def q_pR (M : q_Mem) (k ci j : Nat) (c : Nat) (f : q_Mem → Option β) : Option β := if M.2.2.2[k]? = some (.inl ci) ∧ q_NS ≤ k then f (q_sR M k j c) else none
def q_ln (M : q_Mem) (t a : Nat) : Nat := match M.2.2.2[a]? with
  | some (.inr (u, n)) => if u = t then n else 0
  | _ => 0
def q_lI (M : q_Mem) (t a : Nat) (i : Int32) (f : Int32 → Option β) : Option β := if i < 0 ∨ q_ln M t a ≤ i.toNatClampNeg then none else f (M.1 a i.toNatClampNeg)
def q_lL (M : q_Mem) (a : Nat) (i : Int32) (f : Int64 → Option β) : Option β := if i < 0 ∨ q_ln M 2 a ≤ i.toNatClampNeg then none else f (M.2.1 a i.toNatClampNeg)
def q_lR (M : q_Mem) (t a : Nat) (i : Int32) (f : Nat → Option β) : Option β := if i < 0 ∨ q_ln M t a ≤ i.toNatClampNeg then none else f (M.2.2.1 a i.toNatClampNeg)
def q_tI (M : q_Mem) (a : Nat) (i v : Int32) (f : q_Mem → Option β) : Option β := if (i < 0 ∨ q_ln M 0 a ≤ i.toNatClampNeg) ∨ a < q_NS then none else f (q_sI M a i.toNatClampNeg v)
def q_tB (M : q_Mem) (a : Nat) (i v : Int32) (f : q_Mem → Option β) : Option β := if (i < 0 ∨ q_ln M 1 a ≤ i.toNatClampNeg) ∨ a < q_NS then none else f (q_sI M a i.toNatClampNeg v.toInt8.toInt32)
def q_tL (M : q_Mem) (a : Nat) (i : Int32) (v : Int64) (f : q_Mem → Option β) : Option β := if (i < 0 ∨ q_ln M 2 a ≤ i.toNatClampNeg) ∨ a < q_NS then none else f (q_sL M a i.toNatClampNeg v)
def q_tR (M : q_Mem) (t a : Nat) (i : Int32) (ci v : Nat) (f : q_Mem → Option β) : Option β := if ((i < 0 ∨ q_ln M t a ≤ i.toNatClampNeg) ∨ a < q_NS) ∨ ¬ M.2.2.2[v]? = some (.inl ci) then none else f (q_sR M a i.toNatClampNeg (v + 1))
def q_al (M : q_Mem) (a : Nat) (f : Int32 → Option β) : Option β := match M.2.2.2[a]? with
  | some (.inr (u, n)) => if u < 6 then f (Int32.ofNat n) else none
  | _ => none
def q_dvi (z x : Int32) (f : Int32 → Option β) : Option β := if x = 0 then none else f (z / x)
def q_rmi (z x : Int32) (f : Int32 → Option β) : Option β := if x = 0 then none else f (z - z / x * x)
def q_dvl (z x : Int64) (f : Int64 → Option β) : Option β := if x = 0 then none else f (z / x)
def q_rml (z x : Int64) (f : Int64 → Option β) : Option β := if x = 0 then none else f (z - z / x * x)
def q_nA (M : q_Mem) (t : Nat) (n : Int32) (b : Nat) (f : Nat → q_Mem → Option β) : Option β := if n < 0 ∨ b < n.toNatClampNeg then none else f M.2.2.2.length (q_push M (.inr (t, n.toNatClampNeg)))
def q_nO (M : q_Mem) (ci : Nat) (f : Nat → q_Mem → Option β) : Option β := f M.2.2.2.length (q_push M (.inl ci))
def q_ob (M : q_Mem) (k ci : Nat) (o : Option β) : Option β := if M.2.2.2[k]? = some (.inl ci) then o else none
def q_cp (M : q_Mem) (a : Nat) (sp : Int32) (b : Nat) (dp n : Int32) (f : q_Mem → Option β) : Option β :=
  if (sp < 0 ∨ dp < 0 ∨ ¬ 0 < n) ∨ q_ln M 0 a < sp.toNatClampNeg + n.toNatClampNeg ∨ q_ln M 0 b < dp.toNatClampNeg + n.toNatClampNeg ∨ a < q_NS ∨ b < q_NS then none
  else f (q_sC M b (va_cpy (M.1 a) (M.1 b) sp.toNatClampNeg dp.toNatClampNeg n.toNatClampNeg))
def q_rz (x : Int32) (M : q_Mem) : Option (Int32 × q_Mem) := if x = 0 ∨ x = 1 then some (x, M) else none
/-- a loop: how it goes on, or what it comes to; n: at most so many turns -/
def q_lp {σ ε : Type} (body : σ → Option (σ ⊕ ε)) : Nat → σ → Option ε
  | 0, _ => none
  | n + 1, s => (body s).bind fun r => match r with
    | .inl t => q_lp body n t
    | .inr e => some e
def q_fu : Nat := 100000
end QF
/-- a method's contract -/
def q_Pc (G : q_G) (av : List Value) (M : q_Mem) : Array Value → State → Prop := fun v U => v = (av.map (q_cv G)).toArray ∧ q_Sim G M U.heap ∧ q_TB G U ∧ q_ST G U
def q_Qc (G : q_G) (ov : Option Value) (M : q_Mem) : Array Value → State → Outcome → State → Prop := fun _ u o t => o = .returned (ov.map (q_cv G)) ∧ q_Sim G M t.heap ∧ u.heap.size ≤ t.heap.size ∧ ∀ q, q < G.1 → t.heap[q]? = u.heap[q]?
def q_rm (d mc ms : Nat) : Room := { frames := d, cells := mc, slots := ms, locals := 64 * d }
def q_Met (l : Launch) (G : q_G) (y : MethodName) (cc : ByteArray) (nL : Nat) (rt : Option FieldType) (d mc ms : Nat) (av : List Value) (M : q_Mem) (ov : Option Value) (M' : q_Mem) : Prop :=
  Met l y [.code y cc nL rt] (q_rm d mc ms) (q_Pc G av M) (q_Qc G ov M') mc ms (q_A G)
def q_Q (K : q_K) (ov : Option Value) (M : q_Mem) (mc ms : Nat) : State → Prop := match K with
  | (_, _, _, _, s, _, args, below, _, _, G) => MQ below (q_Qc G ov M) args s mc ms (q_A G)
def q_ent : List Value → Nat → List (Option Value)
  | [], n => List.replicate n none
  | v :: vs, n => if v.category = 2 then some v :: none :: q_ent vs (n - 2) else some v :: q_ent vs (n - 1)
theorem q_cv_cat (G : q_G) (v : Value) : (q_cv G v).category = v.category := by cases v <;> rfl
def q_noL (L : List (Option Value)) (i : Nat) : Bool := match i with
  | 0 => true
  | j + 1 => match L[j]? with
    | some (some v) => v.category == 1
    | _ => true
def q_as (G : q_G) (L : List (Option Value)) : List (Nat × Value) := (List.range L.length).filterMap fun j => match L[j]? with
  | some (some v) => some (j, q_cv G v)
  | _ => none
theorem q_as_mem {G : q_G} {L : List (Option Value)} {j : Nat} {v : Value} (h : L[j]? = some (some v)) : (j, q_cv G v) ∈ q_as G L := by
  refine List.mem_filterMap.mpr ⟨j, List.mem_range.mpr (List.getElem?_eq_some_iff.mp h).1, ?_⟩
  simp [h]
theorem q_as_has {G : q_G} {ls : Array Slot} {nL : Nat} {L : List (Option Value)} (h : q_LH G ls nL L) : lv_has ls nL (q_as G L) := by
  refine ⟨h.1, h.2.1, fun q hq => ?_⟩
  obtain ⟨j, -, hj⟩ := List.mem_filterMap.mp hq
  revert hj
  cases hL : L[j]? with
  | none => intro hj; cases hj
  | some o =>
    cases o with
    | none => intro hj; cases hj
    | some v =>
      intro hj
      cases hj
      exact h.2.2 j v hL
theorem q_LH_set1 {G : q_G} {ls : Array Slot} {nL : Nat} {L : List (Option Value)} {i : Nat} {v : Value} (hi : i < nL) (hn : q_noL L i = true) (h : lv_has ls nL ((i, q_cv G v) :: (q_as G L).filter (fun q => !(q.1 == i) && !(q.1 + 1 == i && q.2.category == 2)))) : q_LH G ls nL (L.set i (some v)) := by
  refine ⟨h.1, h.2.1, fun j w hj => ?_⟩
  by_cases e : j = i
  · subst e
    have hlt : j < L.length := by
      have := (List.getElem?_eq_some_iff.mp hj).1
      simpa using this
    rw [List.getElem?_set_self hlt] at hj
    cases hj
    exact h.2.2 _ List.mem_cons_self
  · rw [List.getElem?_set_ne (Ne.symm e)] at hj
    refine h.2.2 (j, q_cv G w) (List.mem_cons_of_mem _ (List.mem_filter.mpr ⟨q_as_mem hj, ?_⟩))
    have h1 : (j == i) = false := by simpa using e
    by_cases e2 : j + 1 = i
    · subst e2
      simp only [q_noL, hj] at hn
      have : w.category = 1 := by simpa using hn
      simp [h1, q_cv_cat, this]
    · have h2 : (j + 1 == i) = false := by simpa using e2
      simp [h1, h2]
theorem q_LH_set2 {G : q_G} {ls : Array Slot} {nL : Nat} {L : List (Option Value)} {i : Nat} {v : Value} (hn : q_noL L i = true) (h : lv_has ls nL ((i, q_cv G v) :: (q_as G L).filter (fun q => !(q.1 == i) && (!(q.1 == i + 1) && !(q.1 + 1 == i && q.2.category == 2))))) : q_LH G ls nL ((L.set i (some v)).set (i + 1) none) := by
  refine ⟨h.1, h.2.1, fun j w hj => ?_⟩
  by_cases e3 : j = i + 1
  · subst e3
    have hlt : i + 1 < (L.set i (some v)).length := by
      have := (List.getElem?_eq_some_iff.mp hj).1
      simpa using this
    rw [List.getElem?_set_self hlt] at hj
    cases hj
  · rw [List.getElem?_set_ne (Ne.symm e3)] at hj
    by_cases e : j = i
    · subst e
      have hlt : j < L.length := by
        have := (List.getElem?_eq_some_iff.mp hj).1
        simpa using this
      rw [List.getElem?_set_self hlt] at hj
      cases hj
      exact h.2.2 _ List.mem_cons_self
    · rw [List.getElem?_set_ne (Ne.symm e)] at hj
      refine h.2.2 (j, q_cv G w) (List.mem_cons_of_mem _ (List.mem_filter.mpr ⟨q_as_mem hj, ?_⟩))
      have h1 : (j == i) = false := by simpa using e
      have h3 : (j == i + 1) = false := by simpa using e3
      by_cases e2 : j + 1 = i
      · subst e2
        simp only [q_noL, hj] at hn
        have : w.category = 1 := by simpa using hn
        simp [h1, h3, q_cv_cat, this]
      · have h2 : (j + 1 == i) = false := by simpa using e2
        simp [h1, h2, h3]

section QR
variable {K : q_K} {y : MethodName} {cc : ByteArray} {nL : Nat} {rt : Option FieldType} {d mc ms : Nat} {Q : State → Prop} {ce sl : Nat} {M : q_Mem} {pc : Nat} {L : List (Option Value)} {st : List Value}

theorem q_iconst {n : Int} (C : q_C K y cc nL rt d mc ms) (hd : decode cc pc = .ok (.iconst n, 1))  (k : q_W K nL Q ce sl M (pc + 1) L (.int (Int32.ofInt n) :: st)) : q_W K nL Q ce sl M pc L st := by
  obtain ⟨p, l, e, R, s, m, args, below, meth, c, G⟩ := K
  obtain ⟨hx, hb, -⟩ := C
  intro H locs ls hM hS hl
  exact lv_iconst hx hb hd rfl (k H locs ls hM hS hl)
theorem q_bipush {n : Int} (C : q_C K y cc nL rt d mc ms) (hd : decode cc pc = .ok (.bipush n, 2))  (k : q_W K nL Q ce sl M (pc + 2) L (.int (Int8.ofInt n).toInt32 :: st)) : q_W K nL Q ce sl M pc L st := by
  obtain ⟨p, l, e, R, s, m, args, below, meth, c, G⟩ := K
  obtain ⟨hx, hb, -⟩ := C
  intro H locs ls hM hS hl
  exact lv_bipush hx hb hd rfl (k H locs ls hM hS hl)
theorem q_sipush {n : Int} (C : q_C K y cc nL rt d mc ms) (hd : decode cc pc = .ok (.sipush n, 3))  (k : q_W K nL Q ce sl M (pc + 3) L (.int (Int16.ofInt n).toInt32 :: st)) : q_W K nL Q ce sl M pc L st := by
  obtain ⟨p, l, e, R, s, m, args, below, meth, c, G⟩ := K
  obtain ⟨hx, hb, -⟩ := C
  intro H locs ls hM hS hl
  exact lv_sipush hx hb hd rfl (k H locs ls hM hS hl)
theorem q_lconst {n : Fin 2} (C : q_C K y cc nL rt d mc ms) (hd : decode cc pc = .ok (.lconst n, 1))  (k : q_W K nL Q ce sl M (pc + 1) L (.long (Int64.ofNat (n : Nat)) :: st)) : q_W K nL Q ce sl M pc L st := by
  obtain ⟨p, l, e, R, s, m, args, below, meth, c, G⟩ := K
  obtain ⟨hx, hb, -⟩ := C
  intro H locs ls hM hS hl
  exact lv_lconst hx hb hd rfl (k H locs ls hM hS hl)
theorem q_iload_n {i : Fin 4} {x : Int32} (C : q_C K y cc nL rt d mc ms) (hd : decode cc pc = .ok (.iload_n i, 1)) (hi : L[(i : Nat)]? = some (some (.int x))) (k : q_W K nL Q ce sl M (pc + 1) L (.int x :: st)) : q_W K nL Q ce sl M pc L st := by
  obtain ⟨p, l, e, R, s, m, args, below, meth, c, G⟩ := K
  obtain ⟨hx, hb, -⟩ := C
  intro H locs ls hM hS hl
  exact lv_iload_n hx hb hd rfl (hl.2.2 _ _ hi) (k H locs ls hM hS hl)
theorem q_iload {i : Nat} {x : Int32} (C : q_C K y cc nL rt d mc ms) (hd : decode cc pc = .ok (.iload i, 2)) (hi : L[i]? = some (some (.int x))) (k : q_W K nL Q ce sl M (pc + 2) L (.int x :: st)) : q_W K nL Q ce sl M pc L st := by
  obtain ⟨p, l, e, R, s, m, args, below, meth, c, G⟩ := K
  obtain ⟨hx, hb, -⟩ := C
  intro H locs ls hM hS hl
  exact lv_iload hx hb hd (hl.2.2 _ _ hi) (k H locs ls hM hS hl)
theorem q_lload_n {i : Fin 4} {x : Int64} (C : q_C K y cc nL rt d mc ms) (hd : decode cc pc = .ok (.lload_n i, 1)) (hi : L[(i : Nat)]? = some (some (.long x))) (k : q_W K nL Q ce sl M (pc + 1) L (.long x :: st)) : q_W K nL Q ce sl M pc L st := by
  obtain ⟨p, l, e, R, s, m, args, below, meth, c, G⟩ := K
  obtain ⟨hx, hb, -⟩ := C
  intro H locs ls hM hS hl
  exact lv_lload_n hx hb hd rfl (hl.2.2 _ _ hi) (k H locs ls hM hS hl)
theorem q_lload {i : Nat} {x : Int64} (C : q_C K y cc nL rt d mc ms) (hd : decode cc pc = .ok (.lload i, 2)) (hi : L[i]? = some (some (.long x))) (k : q_W K nL Q ce sl M (pc + 2) L (.long x :: st)) : q_W K nL Q ce sl M pc L st := by
  obtain ⟨p, l, e, R, s, m, args, below, meth, c, G⟩ := K
  obtain ⟨hx, hb, -⟩ := C
  intro H locs ls hM hS hl
  exact lv_lload hx hb hd (hl.2.2 _ _ hi) (k H locs ls hM hS hl)
theorem q_aload_n {i : Fin 4} {x : Nat} (C : q_C K y cc nL rt d mc ms) (hd : decode cc pc = .ok (.aload_n i, 1)) (hi : L[(i : Nat)]? = some (some (.ref x))) (k : q_W K nL Q ce sl M (pc + 1) L (.ref x :: st)) : q_W K nL Q ce sl M pc L st := by
  obtain ⟨p, l, e, R, s, m, args, below, meth, c, G⟩ := K
  obtain ⟨hx, hb, -⟩ := C
  intro H locs ls hM hS hl
  exact lv_aload_n hx hb hd rfl (hl.2.2 _ _ hi) (k H locs ls hM hS hl)
theorem q_aload {i : Nat} {x : Nat} (C : q_C K y cc nL rt d mc ms) (hd : decode cc pc = .ok (.aload i, 2)) (hi : L[i]? = some (some (.ref x))) (k : q_W K nL Q ce sl M (pc + 2) L (.ref x :: st)) : q_W K nL Q ce sl M pc L st := by
  obtain ⟨p, l, e, R, s, m, args, below, meth, c, G⟩ := K
  obtain ⟨hx, hb, -⟩ := C
  intro H locs ls hM hS hl
  exact lv_aload hx hb hd (hl.2.2 _ _ hi) (k H locs ls hM hS hl)
theorem q_iadd {x z : Int32} (C : q_C K y cc nL rt d mc ms) (hd : decode cc pc = .ok (.iadd, 1))  (k : q_W K nL Q ce sl M (pc + 1) L (.int (z + x) :: st)) : q_W K nL Q ce sl M pc L (.int x :: .int z :: st) := by
  obtain ⟨p, l, e, R, s, m, args, below, meth, c, G⟩ := K
  obtain ⟨hx, hb, -⟩ := C
  intro H locs ls hM hS hl
  exact lv_iadd hx hb hd (k H locs ls hM hS hl)
theorem q_isub {x z : Int32} (C : q_C K y cc nL rt d mc ms) (hd : decode cc pc = .ok (.isub, 1))  (k : q_W K nL Q ce sl M (pc + 1) L (.int (z - x) :: st)) : q_W K nL Q ce sl M pc L (.int x :: .int z :: st) := by
  obtain ⟨p, l, e, R, s, m, args, below, meth, c, G⟩ := K
  obtain ⟨hx, hb, -⟩ := C
  intro H locs ls hM hS hl
  exact lv_isub hx hb hd (k H locs ls hM hS hl)
theorem q_imul {x z : Int32} (C : q_C K y cc nL rt d mc ms) (hd : decode cc pc = .ok (.imul, 1))  (k : q_W K nL Q ce sl M (pc + 1) L (.int (z * x) :: st)) : q_W K nL Q ce sl M pc L (.int x :: .int z :: st) := by
  obtain ⟨p, l, e, R, s, m, args, below, meth, c, G⟩ := K
  obtain ⟨hx, hb, -⟩ := C
  intro H locs ls hM hS hl
  exact lv_imul hx hb hd (k H locs ls hM hS hl)
theorem q_iand {x z : Int32} (C : q_C K y cc nL rt d mc ms) (hd : decode cc pc = .ok (.iand, 1))  (k : q_W K nL Q ce sl M (pc + 1) L (.int (z &&& x) :: st)) : q_W K nL Q ce sl M pc L (.int x :: .int z :: st) := by
  obtain ⟨p, l, e, R, s, m, args, below, meth, c, G⟩ := K
  obtain ⟨hx, hb, -⟩ := C
  intro H locs ls hM hS hl
  exact lv_iand hx hb hd (k H locs ls hM hS hl)
theorem q_ior {x z : Int32} (C : q_C K y cc nL rt d mc ms) (hd : decode cc pc = .ok (.ior, 1))  (k : q_W K nL Q ce sl M (pc + 1) L (.int (z ||| x) :: st)) : q_W K nL Q ce sl M pc L (.int x :: .int z :: st) := by
  obtain ⟨p, l, e, R, s, m, args, below, meth, c, G⟩ := K
  obtain ⟨hx, hb, -⟩ := C
  intro H locs ls hM hS hl
  exact lv_ior hx hb hd (k H locs ls hM hS hl)
theorem q_ixor {x z : Int32} (C : q_C K y cc nL rt d mc ms) (hd : decode cc pc = .ok (.ixor, 1))  (k : q_W K nL Q ce sl M (pc + 1) L (.int (z ^^^ x) :: st)) : q_W K nL Q ce sl M pc L (.int x :: .int z :: st) := by
  obtain ⟨p, l, e, R, s, m, args, below, meth, c, G⟩ := K
  obtain ⟨hx, hb, -⟩ := C
  intro H locs ls hM hS hl
  exact lv_ixor hx hb hd (k H locs ls hM hS hl)
theorem q_ishl {x z : Int32} (C : q_C K y cc nL rt d mc ms) (hd : decode cc pc = .ok (.ishl, 1))  (k : q_W K nL Q ce sl M (pc + 1) L (.int (z <<< (x &&& 31)) :: st)) : q_W K nL Q ce sl M pc L (.int x :: .int z :: st) := by
  obtain ⟨p, l, e, R, s, m, args, below, meth, c, G⟩ := K
  obtain ⟨hx, hb, -⟩ := C
  intro H locs ls hM hS hl
  exact lv_ishl hx hb hd (k H locs ls hM hS hl)
theorem q_ishr {x z : Int32} (C : q_C K y cc nL rt d mc ms) (hd : decode cc pc = .ok (.ishr, 1))  (k : q_W K nL Q ce sl M (pc + 1) L (.int (z >>> (x &&& 31)) :: st)) : q_W K nL Q ce sl M pc L (.int x :: .int z :: st) := by
  obtain ⟨p, l, e, R, s, m, args, below, meth, c, G⟩ := K
  obtain ⟨hx, hb, -⟩ := C
  intro H locs ls hM hS hl
  exact lv_ishr hx hb hd (k H locs ls hM hS hl)
theorem q_iushr {x z : Int32} (C : q_C K y cc nL rt d mc ms) (hd : decode cc pc = .ok (.iushr, 1))  (k : q_W K nL Q ce sl M (pc + 1) L (.int (z.toUInt32 >>> (x.toUInt32 &&& Int32.toUInt32 31)).toInt32 :: st)) : q_W K nL Q ce sl M pc L (.int x :: .int z :: st) := by
  obtain ⟨p, l, e, R, s, m, args, below, meth, c, G⟩ := K
  obtain ⟨hx, hb, -⟩ := C
  intro H locs ls hM hS hl
  exact lv_iushr hx hb hd rfl (k H locs ls hM hS hl)
theorem q_ineg {x : Int32} (C : q_C K y cc nL rt d mc ms) (hd : decode cc pc = .ok (.ineg, 1))  (k : q_W K nL Q ce sl M (pc + 1) L (.int (-x) :: st)) : q_W K nL Q ce sl M pc L (.int x :: st) := by
  obtain ⟨p, l, e, R, s, m, args, below, meth, c, G⟩ := K
  obtain ⟨hx, hb, -⟩ := C
  intro H locs ls hM hS hl
  exact lv_ineg hx hb hd (k H locs ls hM hS hl)
theorem q_ladd {x z : Int64} (C : q_C K y cc nL rt d mc ms) (hd : decode cc pc = .ok (.ladd, 1))  (k : q_W K nL Q ce sl M (pc + 1) L (.long (z + x) :: st)) : q_W K nL Q ce sl M pc L (.long x :: .long z :: st) := by
  obtain ⟨p, l, e, R, s, m, args, below, meth, c, G⟩ := K
  obtain ⟨hx, hb, -⟩ := C
  intro H locs ls hM hS hl
  exact lv_ladd hx hb hd (k H locs ls hM hS hl)
theorem q_lsub {x z : Int64} (C : q_C K y cc nL rt d mc ms) (hd : decode cc pc = .ok (.lsub, 1))  (k : q_W K nL Q ce sl M (pc + 1) L (.long (z - x) :: st)) : q_W K nL Q ce sl M pc L (.long x :: .long z :: st) := by
  obtain ⟨p, l, e, R, s, m, args, below, meth, c, G⟩ := K
  obtain ⟨hx, hb, -⟩ := C
  intro H locs ls hM hS hl
  exact lv_lsub hx hb hd (k H locs ls hM hS hl)
theorem q_lmul {x z : Int64} (C : q_C K y cc nL rt d mc ms) (hd : decode cc pc = .ok (.lmul, 1))  (k : q_W K nL Q ce sl M (pc + 1) L (.long (z * x) :: st)) : q_W K nL Q ce sl M pc L (.long x :: .long z :: st) := by
  obtain ⟨p, l, e, R, s, m, args, below, meth, c, G⟩ := K
  obtain ⟨hx, hb, -⟩ := C
  intro H locs ls hM hS hl
  exact lv_lmul hx hb hd (k H locs ls hM hS hl)
theorem q_land {x z : Int64} (C : q_C K y cc nL rt d mc ms) (hd : decode cc pc = .ok (.land, 1))  (k : q_W K nL Q ce sl M (pc + 1) L (.long (z &&& x) :: st)) : q_W K nL Q ce sl M pc L (.long x :: .long z :: st) := by
  obtain ⟨p, l, e, R, s, m, args, below, meth, c, G⟩ := K
  obtain ⟨hx, hb, -⟩ := C
  intro H locs ls hM hS hl
  exact lv_land hx hb hd (k H locs ls hM hS hl)
theorem q_lor {x z : Int64} (C : q_C K y cc nL rt d mc ms) (hd : decode cc pc = .ok (.lor, 1))  (k : q_W K nL Q ce sl M (pc + 1) L (.long (z ||| x) :: st)) : q_W K nL Q ce sl M pc L (.long x :: .long z :: st) := by
  obtain ⟨p, l, e, R, s, m, args, below, meth, c, G⟩ := K
  obtain ⟨hx, hb, -⟩ := C
  intro H locs ls hM hS hl
  exact lv_lor hx hb hd (k H locs ls hM hS hl)
theorem q_lushr {x : Int32} {z : Int64} (C : q_C K y cc nL rt d mc ms) (hd : decode cc pc = .ok (.lushr, 1))  (k : q_W K nL Q ce sl M (pc + 1) L (.long (z.toUInt64 >>> (x.toInt64.toUInt64 &&& Int64.toUInt64 63)).toInt64 :: st)) : q_W K nL Q ce sl M pc L (.int x :: .long z :: st) := by
  obtain ⟨p, l, e, R, s, m, args, below, meth, c, G⟩ := K
  obtain ⟨hx, hb, -⟩ := C
  intro H locs ls hM hS hl
  exact lv_lushr hx hb hd rfl (k H locs ls hM hS hl)
theorem q_lshl {x : Int32} {z : Int64} (C : q_C K y cc nL rt d mc ms) (hd : decode cc pc = .ok (.lshl, 1))  (k : q_W K nL Q ce sl M (pc + 1) L (.long (z <<< (x.toInt64 &&& 63)) :: st)) : q_W K nL Q ce sl M pc L (.int x :: .long z :: st) := by
  obtain ⟨p, l, e, R, s, m, args, below, meth, c, G⟩ := K
  obtain ⟨hx, hb, -⟩ := C
  intro H locs ls hM hS hl
  exact lv_lshl hx hb hd rfl (k H locs ls hM hS hl)
theorem q_i2l {x : Int32} (C : q_C K y cc nL rt d mc ms) (hd : decode cc pc = .ok (.i2l, 1))  (k : q_W K nL Q ce sl M (pc + 1) L (.long x.toInt64 :: st)) : q_W K nL Q ce sl M pc L (.int x :: st) := by
  obtain ⟨p, l, e, R, s, m, args, below, meth, c, G⟩ := K
  obtain ⟨hx, hb, -⟩ := C
  intro H locs ls hM hS hl
  exact lv_i2l hx hb hd rfl (k H locs ls hM hS hl)
theorem q_l2i {x : Int64} (C : q_C K y cc nL rt d mc ms) (hd : decode cc pc = .ok (.l2i, 1))  (k : q_W K nL Q ce sl M (pc + 1) L (.int x.toInt32 :: st)) : q_W K nL Q ce sl M pc L (.long x :: st) := by
  obtain ⟨p, l, e, R, s, m, args, below, meth, c, G⟩ := K
  obtain ⟨hx, hb, -⟩ := C
  intro H locs ls hM hS hl
  exact lv_l2i hx hb hd rfl (k H locs ls hM hS hl)
theorem q_i2b {x : Int32} (C : q_C K y cc nL rt d mc ms) (hd : decode cc pc = .ok (.i2b, 1))  (k : q_W K nL Q ce sl M (pc + 1) L (.int x.toInt8.toInt32 :: st)) : q_W K nL Q ce sl M pc L (.int x :: st) := by
  obtain ⟨p, l, e, R, s, m, args, below, meth, c, G⟩ := K
  obtain ⟨hx, hb, -⟩ := C
  intro H locs ls hM hS hl
  exact lv_i2b hx hb hd rfl (k H locs ls hM hS hl)
theorem q_i2c {x : Int32} (C : q_C K y cc nL rt d mc ms) (hd : decode cc pc = .ok (.i2c, 1))  (k : q_W K nL Q ce sl M (pc + 1) L (.int (x.toUInt32 % 65536).toInt32 :: st)) : q_W K nL Q ce sl M pc L (.int x :: st) := by
  obtain ⟨p, l, e, R, s, m, args, below, meth, c, G⟩ := K
  obtain ⟨hx, hb, -⟩ := C
  intro H locs ls hM hS hl
  exact lv_i2c hx hb hd rfl (k H locs ls hM hS hl)
theorem q_lcmp {x z : Int64} (C : q_C K y cc nL rt d mc ms) (hd : decode cc pc = .ok (.lcmp, 1))  (k : q_W K nL Q ce sl M (pc + 1) L (.int (lg_cmp z x) :: st)) : q_W K nL Q ce sl M pc L (.long x :: .long z :: st) := by
  obtain ⟨p, l, e, R, s, m, args, below, meth, c, G⟩ := K
  obtain ⟨hx, hb, -⟩ := C
  intro H locs ls hM hS hl
  exact W.lcmp hx hb hd (k H locs ls hM hS hl)
theorem q_null  (C : q_C K y cc nL rt d mc ms) (hd : decode cc pc = .ok (.aconst_null, 1))  (k : q_W K nL Q ce sl M (pc + 1) L (.null :: st)) : q_W K nL Q ce sl M pc L st := by
  obtain ⟨p, l, e, R, s, m, args, below, meth, c, G⟩ := K
  obtain ⟨hx, hb, -⟩ := C
  intro H locs ls hM hS hl
  exact lv_null hx hb hd (k H locs ls hM hS hl)
theorem q_dup {va : Value} (C : q_C K y cc nL rt d mc ms) (hd : decode cc pc = .ok (.dup, 1)) (hv : va.category = 1) (k : q_W K nL Q ce sl M (pc + 1) L (va :: va :: st)) : q_W K nL Q ce sl M pc L (va :: st) := by
  obtain ⟨p, l, e, R, s, m, args, below, meth, c, G⟩ := K
  obtain ⟨hx, hb, -⟩ := C
  intro H locs ls hM hS hl
  exact lv_dup hx hb hd (by rw [q_cv_cat]; exact hv) (k H locs ls hM hS hl)
theorem q_pop {va : Value} (C : q_C K y cc nL rt d mc ms) (hd : decode cc pc = .ok (.pop, 1)) (hv : va.category = 1) (k : q_W K nL Q ce sl M (pc + 1) L st) : q_W K nL Q ce sl M pc L (va :: st) := by
  obtain ⟨p, l, e, R, s, m, args, below, meth, c, G⟩ := K
  obtain ⟨hx, hb, -⟩ := C
  intro H locs ls hM hS hl
  exact lv_pop hx hb hd (by rw [q_cv_cat]; exact hv) (k H locs ls hM hS hl)
theorem q_dup_x1 {va vb : Value} (C : q_C K y cc nL rt d mc ms) (hd : decode cc pc = .ok (.dup_x1, 1)) (hv : va.category = 1) (hw : vb.category = 1) (k : q_W K nL Q ce sl M (pc + 1) L (va :: vb :: va :: st)) : q_W K nL Q ce sl M pc L (va :: vb :: st) := by
  obtain ⟨p, l, e, R, s, m, args, below, meth, c, G⟩ := K
  obtain ⟨hx, hb, -⟩ := C
  intro H locs ls hM hS hl
  exact lv_dup_x1 hx hb hd (by rw [q_cv_cat]; exact hv) (by rw [q_cv_cat]; exact hw) (k H locs ls hM hS hl)
theorem q_dup2 {va vb : Value} (C : q_C K y cc nL rt d mc ms) (hd : decode cc pc = .ok (.dup2, 1)) (hv : va.category = 1) (hw : vb.category = 1) (k : q_W K nL Q ce sl M (pc + 1) L (va :: vb :: va :: vb :: st)) : q_W K nL Q ce sl M pc L (va :: vb :: st) := by
  obtain ⟨p, l, e, R, s, m, args, below, meth, c, G⟩ := K
  obtain ⟨hx, hb, -⟩ := C
  intro H locs ls hM hS hl
  exact lv_dup2_11 hx hb hd (by rw [q_cv_cat]; exact hv) (by rw [q_cv_cat]; exact hw) (k H locs ls hM hS hl)
theorem q_goto {off : Int} {tgt : Nat} (C : q_C K y cc nL rt d mc ms) (hd : decode cc pc = .ok (.goto off, 3)) (ht : (pc : Int) + off = (tgt : Int)) (k : q_W K nL Q ce sl M tgt L st) : q_W K nL Q ce sl M pc L st := by
  obtain ⟨p, l, e, R, s, m, args, below, meth, c, G⟩ := K
  obtain ⟨hx, hb, -⟩ := C
  intro H locs ls hM hS hl
  exact lv_goto hx hb hd ht (k H locs ls hM hS hl)
theorem q_idiv {β : Type} {res : β} {x z : Int32} {f : Int32 → Option β} (C : q_C K y cc nL rt d mc ms) (hd : decode cc pc = .ok (.idiv, 1)) (h : q_dvi z x f = some res) (k : ∀ v, f v = some res → q_W K nL Q ce sl M (pc + 1) L (.int v :: st)) : q_W K nL Q ce sl M pc L (.int x :: .int z :: st) := by
  obtain ⟨p, l, e, R, s, m, args, below, meth, c, G⟩ := K
  obtain ⟨hx, hb, -⟩ := C
  intro H locs ls hM hS hl
  unfold q_dvi at h
  split at h
  · cases h
  · rename_i hne
    exact lv_idiv hx hb hd hne (k _ h H locs ls hM hS hl)
theorem q_irem {β : Type} {res : β} {x z : Int32} {f : Int32 → Option β} (C : q_C K y cc nL rt d mc ms) (hd : decode cc pc = .ok (.irem, 1)) (h : q_rmi z x f = some res) (k : ∀ v, f v = some res → q_W K nL Q ce sl M (pc + 1) L (.int v :: st)) : q_W K nL Q ce sl M pc L (.int x :: .int z :: st) := by
  obtain ⟨p, l, e, R, s, m, args, below, meth, c, G⟩ := K
  obtain ⟨hx, hb, -⟩ := C
  intro H locs ls hM hS hl
  unfold q_rmi at h
  split at h
  · cases h
  · rename_i hne
    exact lv_irem hx hb hd hne (k _ h H locs ls hM hS hl)
theorem q_ldiv {β : Type} {res : β} {x z : Int64} {f : Int64 → Option β} (C : q_C K y cc nL rt d mc ms) (hd : decode cc pc = .ok (.ldiv, 1)) (h : q_dvl z x f = some res) (k : ∀ v, f v = some res → q_W K nL Q ce sl M (pc + 1) L (.long v :: st)) : q_W K nL Q ce sl M pc L (.long x :: .long z :: st) := by
  obtain ⟨p, l, e, R, s, m, args, below, meth, c, G⟩ := K
  obtain ⟨hx, hb, -⟩ := C
  intro H locs ls hM hS hl
  unfold q_dvl at h
  split at h
  · cases h
  · rename_i hne
    exact lv_ldiv hx hb hd hne (k _ h H locs ls hM hS hl)
theorem q_lrem {β : Type} {res : β} {x z : Int64} {f : Int64 → Option β} (C : q_C K y cc nL rt d mc ms) (hd : decode cc pc = .ok (.lrem, 1)) (h : q_rml z x f = some res) (k : ∀ v, f v = some res → q_W K nL Q ce sl M (pc + 1) L (.long v :: st)) : q_W K nL Q ce sl M pc L (.long x :: .long z :: st) := by
  obtain ⟨p, l, e, R, s, m, args, below, meth, c, G⟩ := K
  obtain ⟨hx, hb, -⟩ := C
  intro H locs ls hM hS hl
  unfold q_rml at h
  split at h
  · cases h
  · rename_i hne
    exact lv_lrem hx hb hd hne (k _ h H locs ls hM hS hl)
theorem q_if_eq {β : Type} {res : β} {x : Int32} {off : Int} {tgt : Nat} {o1 o2 : Option β} (C : q_C K y cc nL rt d mc ms) (hd : decode cc pc = .ok (.ifCond .eq off, 3)) (ht : (pc : Int) + off = (tgt : Int)) (h : (if x = 0 then o1 else o2) = some res) (k1 : x = 0 → o1 = some res → q_W K nL Q ce sl M tgt L st) (k2 : ¬ x = 0 → o2 = some res → q_W K nL Q ce sl M (pc + 3) L st) : q_W K nL Q ce sl M pc L (.int x :: st) := by
  obtain ⟨p, l, e, R, s, m, args, below, meth, c, G⟩ := K
  obtain ⟨hx, hb, -⟩ := C
  intro H locs ls hM hS hl
  by_cases hc : x = 0
  · rw [if_pos hc] at h
    exact lv_if_eq hx hb hd ht (fun _ => (k1 hc h H locs ls hM hS hl)) (fun q => absurd hc q)
  · rw [if_neg hc] at h
    exact lv_if_eq hx hb hd ht (fun q => absurd q hc) (fun _ => (k2 hc h H locs ls hM hS hl))
theorem q_if_ne {β : Type} {res : β} {x : Int32} {off : Int} {tgt : Nat} {o1 o2 : Option β} (C : q_C K y cc nL rt d mc ms) (hd : decode cc pc = .ok (.ifCond .ne off, 3)) (ht : (pc : Int) + off = (tgt : Int)) (h : (if x = 0 then o1 else o2) = some res) (k1 : x = 0 → o1 = some res → q_W K nL Q ce sl M (pc + 3) L st) (k2 : ¬ x = 0 → o2 = some res → q_W K nL Q ce sl M tgt L st) : q_W K nL Q ce sl M pc L (.int x :: st) := by
  obtain ⟨p, l, e, R, s, m, args, below, meth, c, G⟩ := K
  obtain ⟨hx, hb, -⟩ := C
  intro H locs ls hM hS hl
  by_cases hc : x = 0
  · rw [if_pos hc] at h
    exact lv_if_ne hx hb hd ht (fun q => absurd q (fun z => z hc)) (fun _ => (k1 hc h H locs ls hM hS hl))
  · rw [if_neg hc] at h
    exact lv_if_ne hx hb hd ht (fun _ => (k2 hc h H locs ls hM hS hl)) (fun q => absurd q hc)
theorem q_if_lt {β : Type} {res : β} {x : Int32} {off : Int} {tgt : Nat} {o1 o2 : Option β} (C : q_C K y cc nL rt d mc ms) (hd : decode cc pc = .ok (.ifCond .lt off, 3)) (ht : (pc : Int) + off = (tgt : Int)) (h : (if x < 0 then o1 else o2) = some res) (k1 : x < 0 → o1 = some res → q_W K nL Q ce sl M tgt L st) (k2 : ¬ x < 0 → o2 = some res → q_W K nL Q ce sl M (pc + 3) L st) : q_W K nL Q ce sl M pc L (.int x :: st) := by
  obtain ⟨p, l, e, R, s, m, args, below, meth, c, G⟩ := K
  obtain ⟨hx, hb, -⟩ := C
  intro H locs ls hM hS hl
  by_cases hc : x < 0
  · rw [if_pos hc] at h
    exact lv_if_lt hx hb hd ht (fun _ => (k1 hc h H locs ls hM hS hl)) (fun q => absurd hc q)
  · rw [if_neg hc] at h
    exact lv_if_lt hx hb hd ht (fun q => absurd q hc) (fun _ => (k2 hc h H locs ls hM hS hl))
theorem q_if_ge {β : Type} {res : β} {x : Int32} {off : Int} {tgt : Nat} {o1 o2 : Option β} (C : q_C K y cc nL rt d mc ms) (hd : decode cc pc = .ok (.ifCond .ge off, 3)) (ht : (pc : Int) + off = (tgt : Int)) (h : (if x < 0 then o1 else o2) = some res) (k1 : x < 0 → o1 = some res → q_W K nL Q ce sl M (pc + 3) L st) (k2 : ¬ x < 0 → o2 = some res → q_W K nL Q ce sl M tgt L st) : q_W K nL Q ce sl M pc L (.int x :: st) := by
  obtain ⟨p, l, e, R, s, m, args, below, meth, c, G⟩ := K
  obtain ⟨hx, hb, -⟩ := C
  intro H locs ls hM hS hl
  by_cases hc : x < 0
  · rw [if_pos hc] at h
    exact lv_if_ge hx hb hd ht (fun q => absurd q (Int32.not_le.mpr hc)) (fun _ => (k1 hc h H locs ls hM hS hl))
  · rw [if_neg hc] at h
    exact lv_if_ge hx hb hd ht (fun _ => (k2 hc h H locs ls hM hS hl)) (fun q => absurd (Int32.not_lt.mp hc) q)
theorem q_if_gt {β : Type} {res : β} {x : Int32} {off : Int} {tgt : Nat} {o1 o2 : Option β} (C : q_C K y cc nL rt d mc ms) (hd : decode cc pc = .ok (.ifCond .gt off, 3)) (ht : (pc : Int) + off = (tgt : Int)) (h : (if 0 < x then o1 else o2) = some res) (k1 : 0 < x → o1 = some res → q_W K nL Q ce sl M tgt L st) (k2 : ¬ 0 < x → o2 = some res → q_W K nL Q ce sl M (pc + 3) L st) : q_W K nL Q ce sl M pc L (.int x :: st) := by
  obtain ⟨p, l, e, R, s, m, args, below, meth, c, G⟩ := K
  obtain ⟨hx, hb, -⟩ := C
  intro H locs ls hM hS hl
  by_cases hc : 0 < x
  · rw [if_pos hc] at h
    exact lv_if_gt hx hb hd ht (fun _ => (k1 hc h H locs ls hM hS hl)) (fun q => absurd hc q)
  · rw [if_neg hc] at h
    exact lv_if_gt hx hb hd ht (fun q => absurd q hc) (fun _ => (k2 hc h H locs ls hM hS hl))
theorem q_if_le {β : Type} {res : β} {x : Int32} {off : Int} {tgt : Nat} {o1 o2 : Option β} (C : q_C K y cc nL rt d mc ms) (hd : decode cc pc = .ok (.ifCond .le off, 3)) (ht : (pc : Int) + off = (tgt : Int)) (h : (if 0 < x then o1 else o2) = some res) (k1 : 0 < x → o1 = some res → q_W K nL Q ce sl M (pc + 3) L st) (k2 : ¬ 0 < x → o2 = some res → q_W K nL Q ce sl M tgt L st) : q_W K nL Q ce sl M pc L (.int x :: st) := by
  obtain ⟨p, l, e, R, s, m, args, below, meth, c, G⟩ := K
  obtain ⟨hx, hb, -⟩ := C
  intro H locs ls hM hS hl
  by_cases hc : 0 < x
  · rw [if_pos hc] at h
    exact lv_if_le hx hb hd ht (fun q => absurd q (Int32.not_le.mpr hc)) (fun _ => (k1 hc h H locs ls hM hS hl))
  · rw [if_neg hc] at h
    exact lv_if_le hx hb hd ht (fun _ => (k2 hc h H locs ls hM hS hl)) (fun q => absurd (Int32.not_lt.mp hc) q)
theorem q_icmp_eq {β : Type} {res : β} {x z : Int32} {off : Int} {tgt : Nat} {o1 o2 : Option β} (C : q_C K y cc nL rt d mc ms) (hd : decode cc pc = .ok (.if_icmp .eq off, 3)) (ht : (pc : Int) + off = (tgt : Int)) (h : (if z = x then o1 else o2) = some res) (k1 : z = x → o1 = some res → q_W K nL Q ce sl M tgt L st) (k2 : ¬ z = x → o2 = some res → q_W K nL Q ce sl M (pc + 3) L st) : q_W K nL Q ce sl M pc L (.int x :: .int z :: st) := by
  obtain ⟨p, l, e, R, s, m, args, below, meth, c, G⟩ := K
  obtain ⟨hx, hb, -⟩ := C
  intro H locs ls hM hS hl
  by_cases hc : z = x
  · rw [if_pos hc] at h
    exact lv_icmp_eq hx hb hd ht (fun _ => (k1 hc h H locs ls hM hS hl)) (fun q => absurd hc q)
  · rw [if_neg hc] at h
    exact lv_icmp_eq hx hb hd ht (fun q => absurd q hc) (fun _ => (k2 hc h H locs ls hM hS hl))
theorem q_icmp_ne {β : Type} {res : β} {x z : Int32} {off : Int} {tgt : Nat} {o1 o2 : Option β} (C : q_C K y cc nL rt d mc ms) (hd : decode cc pc = .ok (.if_icmp .ne off, 3)) (ht : (pc : Int) + off = (tgt : Int)) (h : (if z = x then o1 else o2) = some res) (k1 : z = x → o1 = some res → q_W K nL Q ce sl M (pc + 3) L st) (k2 : ¬ z = x → o2 = some res → q_W K nL Q ce sl M tgt L st) : q_W K nL Q ce sl M pc L (.int x :: .int z :: st) := by
  obtain ⟨p, l, e, R, s, m, args, below, meth, c, G⟩ := K
  obtain ⟨hx, hb, -⟩ := C
  intro H locs ls hM hS hl
  by_cases hc : z = x
  · rw [if_pos hc] at h
    exact lv_icmp_ne hx hb hd ht (fun q => absurd q (fun z => z hc)) (fun _ => (k1 hc h H locs ls hM hS hl))
  · rw [if_neg hc] at h
    exact lv_icmp_ne hx hb hd ht (fun _ => (k2 hc h H locs ls hM hS hl)) (fun q => absurd q hc)
theorem q_icmp_lt {β : Type} {res : β} {x z : Int32} {off : Int} {tgt : Nat} {o1 o2 : Option β} (C : q_C K y cc nL rt d mc ms) (hd : decode cc pc = .ok (.if_icmp .lt off, 3)) (ht : (pc : Int) + off = (tgt : Int)) (h : (if z < x then o1 else o2) = some res) (k1 : z < x → o1 = some res → q_W K nL Q ce sl M tgt L st) (k2 : ¬ z < x → o2 = some res → q_W K nL Q ce sl M (pc + 3) L st) : q_W K nL Q ce sl M pc L (.int x :: .int z :: st) := by
  obtain ⟨p, l, e, R, s, m, args, below, meth, c, G⟩ := K
  obtain ⟨hx, hb, -⟩ := C
  intro H locs ls hM hS hl
  by_cases hc : z < x
  · rw [if_pos hc] at h
    exact lv_icmp_lt hx hb hd ht (fun _ => (k1 hc h H locs ls hM hS hl)) (fun q => absurd hc q)
  · rw [if_neg hc] at h
    exact lv_icmp_lt hx hb hd ht (fun q => absurd q hc) (fun _ => (k2 hc h H locs ls hM hS hl))
theorem q_icmp_ge {β : Type} {res : β} {x z : Int32} {off : Int} {tgt : Nat} {o1 o2 : Option β} (C : q_C K y cc nL rt d mc ms) (hd : decode cc pc = .ok (.if_icmp .ge off, 3)) (ht : (pc : Int) + off = (tgt : Int)) (h : (if z < x then o1 else o2) = some res) (k1 : z < x → o1 = some res → q_W K nL Q ce sl M (pc + 3) L st) (k2 : ¬ z < x → o2 = some res → q_W K nL Q ce sl M tgt L st) : q_W K nL Q ce sl M pc L (.int x :: .int z :: st) := by
  obtain ⟨p, l, e, R, s, m, args, below, meth, c, G⟩ := K
  obtain ⟨hx, hb, -⟩ := C
  intro H locs ls hM hS hl
  by_cases hc : z < x
  · rw [if_pos hc] at h
    exact lv_icmp_ge hx hb hd ht (fun q => absurd q (Int32.not_le.mpr hc)) (fun _ => (k1 hc h H locs ls hM hS hl))
  · rw [if_neg hc] at h
    exact lv_icmp_ge hx hb hd ht (fun _ => (k2 hc h H locs ls hM hS hl)) (fun q => absurd (Int32.not_lt.mp hc) q)
theorem q_icmp_gt {β : Type} {res : β} {x z : Int32} {off : Int} {tgt : Nat} {o1 o2 : Option β} (C : q_C K y cc nL rt d mc ms) (hd : decode cc pc = .ok (.if_icmp .gt off, 3)) (ht : (pc : Int) + off = (tgt : Int)) (h : (if x < z then o1 else o2) = some res) (k1 : x < z → o1 = some res → q_W K nL Q ce sl M tgt L st) (k2 : ¬ x < z → o2 = some res → q_W K nL Q ce sl M (pc + 3) L st) : q_W K nL Q ce sl M pc L (.int x :: .int z :: st) := by
  obtain ⟨p, l, e, R, s, m, args, below, meth, c, G⟩ := K
  obtain ⟨hx, hb, -⟩ := C
  intro H locs ls hM hS hl
  by_cases hc : x < z
  · rw [if_pos hc] at h
    exact lv_icmp_gt hx hb hd ht (fun _ => (k1 hc h H locs ls hM hS hl)) (fun q => absurd hc q)
  · rw [if_neg hc] at h
    exact lv_icmp_gt hx hb hd ht (fun q => absurd q hc) (fun _ => (k2 hc h H locs ls hM hS hl))
theorem q_icmp_le {β : Type} {res : β} {x z : Int32} {off : Int} {tgt : Nat} {o1 o2 : Option β} (C : q_C K y cc nL rt d mc ms) (hd : decode cc pc = .ok (.if_icmp .le off, 3)) (ht : (pc : Int) + off = (tgt : Int)) (h : (if x < z then o1 else o2) = some res) (k1 : x < z → o1 = some res → q_W K nL Q ce sl M (pc + 3) L st) (k2 : ¬ x < z → o2 = some res → q_W K nL Q ce sl M tgt L st) : q_W K nL Q ce sl M pc L (.int x :: .int z :: st) := by
  obtain ⟨p, l, e, R, s, m, args, below, meth, c, G⟩ := K
  obtain ⟨hx, hb, -⟩ := C
  intro H locs ls hM hS hl
  by_cases hc : x < z
  · rw [if_pos hc] at h
    exact lv_icmp_le hx hb hd ht (fun q => absurd q (Int32.not_le.mpr hc)) (fun _ => (k1 hc h H locs ls hM hS hl))
  · rw [if_neg hc] at h
    exact lv_icmp_le hx hb hd ht (fun _ => (k2 hc h H locs ls hM hS hl)) (fun q => absurd (Int32.not_lt.mp hc) q)
theorem q_ifnull {β : Type} {res : β} {r : Nat} {off : Int} {tgt : Nat} {o1 : Option β} {f : Nat → Option β} (C : q_C K y cc nL rt d mc ms) (hd : decode cc pc = .ok (.ifnull off, 3)) (ht : (pc : Int) + off = (tgt : Int)) (h : (match r with | 0 => o1 | n + 1 => f n) = some res) (k1 : r = 0 → o1 = some res → q_W K nL Q ce sl M tgt L st) (k2 : ∀ n, r = n + 1 → f n = some res → q_W K nL Q ce sl M (pc + 3) L st) : q_W K nL Q ce sl M pc L (q_rc r :: st) := by
  obtain ⟨p, l, e, R, s, m, args, below, meth, c, G⟩ := K
  obtain ⟨hx, hb, -⟩ := C
  intro H locs ls hM hS hl
  cases r with
  | zero => exact lv_ifnullN hx hb hd ht (k1 rfl h H locs ls hM hS hl)
  | succ n => exact lv_ifnull hx hb hd (k2 n rfl h H locs ls hM hS hl)
theorem q_ifnonnull {β : Type} {res : β} {r : Nat} {off : Int} {tgt : Nat} {o1 : Option β} {f : Nat → Option β} (C : q_C K y cc nL rt d mc ms) (hd : decode cc pc = .ok (.ifnonnull off, 3)) (ht : (pc : Int) + off = (tgt : Int)) (h : (match r with | 0 => o1 | n + 1 => f n) = some res) (k1 : r = 0 → o1 = some res → q_W K nL Q ce sl M (pc + 3) L st) (k2 : ∀ n, r = n + 1 → f n = some res → q_W K nL Q ce sl M tgt L st) : q_W K nL Q ce sl M pc L (q_rc r :: st) := by
  obtain ⟨p, l, e, R, s, m, args, below, meth, c, G⟩ := K
  obtain ⟨hx, hb, -⟩ := C
  intro H locs ls hM hS hl
  cases r with
  | zero => exact lv_ifnonnullN hx hb hd (k1 rfl h H locs ls hM hS hl)
  | succ n => exact lv_ifnonnull hx hb hd ht (k2 n rfl h H locs ls hM hS hl)
theorem q_nnW {β : Type} {res : β} {r : Nat} {f : Nat → Option β} {P : Nat → Prop} (h : q_nn r f = some res) (k : ∀ n, f n = some res → P (n + 1)) : P r := by
  cases r with
  | zero => cases h
  | succ n => exact k n h
theorem q_istore_n {i : Fin 4} {x : Int32} {L' : List (Option Value)} (C : q_C K y cc nL rt d mc ms) (hd : decode cc pc = .ok (.istore_n i, 1)) (hi : (i : Nat) < nL) (hn : q_noL L i = true) (hL : L.set i (some (.int x)) = L') (k : q_W K nL Q ce sl M (pc + 1) L' st) : q_W K nL Q ce sl M pc L (.int x :: st) := by
  obtain ⟨p, l, e, R, s, m, args, below, meth, c, G⟩ := K
  obtain ⟨hx, hb, -⟩ := C
  intro H locs ls hM hS hl
  exact lv_istore_n hx hb hd rfl (q_as_has hl) hi rfl (fun ls' h' => k H locs ls' hM hS (hL ▸ q_LH_set1 (v := .int x) hi hn h'))
theorem q_istore {i : Nat} {x : Int32} {L' : List (Option Value)} (C : q_C K y cc nL rt d mc ms) (hd : decode cc pc = .ok (.istore i, 2)) (hi : (i : Nat) < nL) (hn : q_noL L i = true) (hL : L.set i (some (.int x)) = L') (k : q_W K nL Q ce sl M (pc + 2) L' st) : q_W K nL Q ce sl M pc L (.int x :: st) := by
  obtain ⟨p, l, e, R, s, m, args, below, meth, c, G⟩ := K
  obtain ⟨hx, hb, -⟩ := C
  intro H locs ls hM hS hl
  exact lv_istore hx hb hd (q_as_has hl) hi rfl (fun ls' h' => k H locs ls' hM hS (hL ▸ q_LH_set1 (v := .int x) hi hn h'))
theorem q_astore_n {i : Fin 4} {x : Nat} {L' : List (Option Value)} (C : q_C K y cc nL rt d mc ms) (hd : decode cc pc = .ok (.astore_n i, 1)) (hi : (i : Nat) < nL) (hn : q_noL L i = true) (hL : L.set i (some (.ref x)) = L') (k : q_W K nL Q ce sl M (pc + 1) L' st) : q_W K nL Q ce sl M pc L (.ref x :: st) := by
  obtain ⟨p, l, e, R, s, m, args, below, meth, c, G⟩ := K
  obtain ⟨hx, hb, -⟩ := C
  intro H locs ls hM hS hl
  exact lv_astore_n hx hb hd rfl (q_as_has hl) hi rfl (fun ls' h' => k H locs ls' hM hS (hL ▸ q_LH_set1 (v := .ref x) hi hn h'))
theorem q_astore {i : Nat} {x : Nat} {L' : List (Option Value)} (C : q_C K y cc nL rt d mc ms) (hd : decode cc pc = .ok (.astore i, 2)) (hi : (i : Nat) < nL) (hn : q_noL L i = true) (hL : L.set i (some (.ref x)) = L') (k : q_W K nL Q ce sl M (pc + 2) L' st) : q_W K nL Q ce sl M pc L (.ref x :: st) := by
  obtain ⟨p, l, e, R, s, m, args, below, meth, c, G⟩ := K
  obtain ⟨hx, hb, -⟩ := C
  intro H locs ls hM hS hl
  exact lv_astore hx hb hd (q_as_has hl) hi rfl (fun ls' h' => k H locs ls' hM hS (hL ▸ q_LH_set1 (v := .ref x) hi hn h'))
theorem q_lstore_n {i : Fin 4} {x : Int64} {L' : List (Option Value)} (C : q_C K y cc nL rt d mc ms) (hd : decode cc pc = .ok (.lstore_n i, 1)) (hi : (i : Nat) + 1 < nL) (hn : q_noL L i = true) (hL : (L.set i (some (.long x))).set (i + 1) none = L') (k : q_W K nL Q ce sl M (pc + 1) L' st) : q_W K nL Q ce sl M pc L (.long x :: st) := by
  obtain ⟨p, l, e, R, s, m, args, below, meth, c, G⟩ := K
  obtain ⟨hx, hb, -⟩ := C
  intro H locs ls hM hS hl
  exact lv_lstore_n hx hb hd rfl (q_as_has hl) hi rfl (fun ls' h' => k H locs ls' hM hS (hL ▸ q_LH_set2 (v := .long x) hn h'))
theorem q_lstore {i : Nat} {x : Int64} {L' : List (Option Value)} (C : q_C K y cc nL rt d mc ms) (hd : decode cc pc = .ok (.lstore i, 2)) (hi : (i : Nat) + 1 < nL) (hn : q_noL L i = true) (hL : (L.set i (some (.long x))).set (i + 1) none = L') (k : q_W K nL Q ce sl M (pc + 2) L' st) : q_W K nL Q ce sl M pc L (.long x :: st) := by
  obtain ⟨p, l, e, R, s, m, args, below, meth, c, G⟩ := K
  obtain ⟨hx, hb, -⟩ := C
  intro H locs ls hM hS hl
  exact lv_lstore hx hb hd (q_as_has hl) hi rfl (fun ls' h' => k H locs ls' hM hS (hL ▸ q_LH_set2 (v := .long x) hn h'))
theorem q_iinc {i : Nat} {n : Int} {x : Int32} {L' : List (Option Value)} (C : q_C K y cc nL rt d mc ms) (hd : decode cc pc = .ok (.iinc i n, 3)) (hx0 : L[i]? = some (some (.int x))) (hi : i < nL) (hn : q_noL L i = true) (hL : L.set i (some (.int (x + Int32.ofInt n))) = L') (k : q_W K nL Q ce sl M (pc + 3) L' st) : q_W K nL Q ce sl M pc L st := by
  obtain ⟨p, l, e, R, s, m, args, below, meth, c, G⟩ := K
  obtain ⟨hx, hb, -⟩ := C
  intro H locs ls hM hS hl
  obtain ⟨j, hj⟩ := List.getElem?_of_mem (q_as_mem (G := G) hx0)
  exact lv_iinc hx hb hd (q_as_has hl) (k := j) hj rfl hi rfl (fun ls' h' => k H locs ls' hM hS (hL ▸ q_LH_set1 (v := .int (x + Int32.ofInt n)) hi hn h'))
/-- fewer locals are known -/
theorem q_mask {L' : List (Option Value)} (h : ∀ (i : Nat) (v : Value), L'[i]? = some (some v) → L[i]? = some (some v)) (k : q_W K nL Q ce sl M pc L' st) : q_W K nL Q ce sl M pc L st := by
  obtain ⟨p, l, e, R, s, m, args, below, meth, c, G⟩ := K
  intro H locs ls hM hS hl
  exact k H locs ls hM hS ⟨hl.1, hl.2.1, fun i v q => hl.2.2 i v (h i v q)⟩
theorem q_widen {ce' sl' : Nat} (h1 : ce ≤ ce') (h2 : sl ≤ sl') (k : q_W K nL Q ce' sl' M pc L st) : q_W K nL Q ce sl M pc L st := by
  obtain ⟨p, l, e, R, s, m, args, below, meth, c, G⟩ := K
  intro H locs ls hM hS hl
  exact W.widen h1 h2 (k H locs ls hM hS hl)
end QR
def q_mk : List Bool → List (Option Value) → List (Option Value)
  | true :: bs, v :: vs => v :: q_mk bs vs
  | false :: bs, _ :: vs => none :: q_mk bs vs
  | _, _ => []
theorem q_mk_ok : ∀ (bs : List Bool) (L : List (Option Value)) (i : Nat) (v : Value), (q_mk bs L)[i]? = some (some v) → L[i]? = some (some v)
  | [], _, _, _, h => by simp [q_mk] at h
  | true :: _, [], _, _, h => by simp [q_mk] at h
  | false :: _, [], _, _, h => by simp [q_mk] at h
  | true :: bs, w :: vs, 0, v, h => by simpa [q_mk] using h
  | true :: bs, w :: vs, i + 1, v, h => by
    have := q_mk_ok bs vs i v (by simpa [q_mk] using h)
    simpa using this
  | false :: bs, w :: vs, 0, v, h => by simp [q_mk] at h
  | false :: bs, w :: vs, i + 1, v, h => by
    have := q_mk_ok bs vs i v (by simpa [q_mk] using h)
    simpa using this
theorem q_msk {K : q_K} {nL : Nat} {Q : State → Prop} {ce sl : Nat} {M : q_Mem} {pc : Nat} {L : List (Option Value)} {st : List Value} (bs : List Bool) (k : q_W K nL Q ce sl M pc (q_mk bs L) st) : q_W K nL Q ce sl M pc L st := q_mask (q_mk_ok bs L) k
theorem q_bind {α β : Type} {o : Option α} {f : α → Option β} {r : β} (h : o.bind f = some r) : ∃ a, o = some a ∧ f a = some r := by
  cases o with
  | none => cases h
  | some a => exact ⟨a, rfl, h⟩

