/-! the rules as the walks use them: what is read or made gets a name of its own -/
theorem q_gwm (i : Nat) {w : Cond} (h : tables_1[i]? = some w) (hg : goodWord w = true) : w ∈ q_gw := List.mem_filter.mpr ⟨List.mem_append_right _ (List.mem_of_getElem? h), hg⟩
theorem q_gws {y : MethodName} (h : Cond.selects y.cls y y ∈ k2_sels lw_privs) : Cond.selects y.cls y y ∈ q_gw := List.mem_filter.mpr ⟨List.mem_append_left _ h, rfl⟩
theorem q_nwm (i : Nat) {w : Cond} (h : tables_1[i]? = some w) (hg : q_isN w = true) : w ∈ q_nw := List.mem_filter.mpr ⟨List.mem_of_getElem? h, hg⟩
theorem q_obE {β : Type} {res : β} {M : q_Mem} {k ci : Nat} {o : Option β} (h : q_ob M k ci o = some res) : M.2.2.2[k]? = some (.inl ci) ∧ o = some res := by
  unfold q_ob at h
  split at h
  · rename_i hs
    exact ⟨hs, h⟩
  · cases h
theorem q_rzE {x : Int32} {M : q_Mem} {res : Int32 × q_Mem} (h : q_rz x M = some res) : (x = 0 ∨ x = 1) ∧ (x, M) = res := by
  unfold q_rz at h
  split at h
  · rename_i hs
    exact ⟨hs, Option.some.inj h⟩
  · cases h
def q_rq (x : Int32) : Option Int32 := if x = 0 ∨ x = 1 then some x else none
theorem q_rqE {x res : Int32} (h : q_rq x = some res) : (x = 0 ∨ x = 1) ∧ x = res := by
  unfold q_rq at h
  split at h
  · rename_i hs
    exact ⟨hs, Option.some.inj h⟩
  · cases h
section QX
variable {K : q_K} {y : MethodName} {cc : ByteArray} {nL : Nat} {rt : Option FieldType} {d mc ms : Nat} {Q : State → Prop} {ce sl : Nat} {M : q_Mem} {pc : Nat} {L : List (Option Value)} {st st0 : List Value} {β : Type} {res : β}
theorem x_getI {k ci j idx : Nat} {f : Int32 → Option β} (C : q_C K y cc nL rt d mc ms) (hd : decode cc pc = .ok (.getfield idx, 3)) (lk : q_lkF y.cls idx ci j) (hkd : q_kd (q_ty ci j) = 0) (h : q_gI M k ci j f = some res) (kk : ∀ v, f v = some res → q_W K nL Q ce sl M (pc + 3) L (.int v :: st)) : q_W K nL Q ce sl M pc L (.ref k :: st) := q_getI C hd lk hkd h (kk _)
theorem x_getL {k ci j idx : Nat} {f : Int64 → Option β} (C : q_C K y cc nL rt d mc ms) (hd : decode cc pc = .ok (.getfield idx, 3)) (lk : q_lkF y.cls idx ci j) (hkd : q_kd (q_ty ci j) = 1) (h : q_gL M k ci j f = some res) (kk : ∀ v, f v = some res → q_W K nL Q ce sl M (pc + 3) L (.long v :: st)) : q_W K nL Q ce sl M pc L (.ref k :: st) := q_getL C hd lk hkd h (kk _)
theorem x_getR {k ci j idx : Nat} {f : Nat → Option β} (C : q_C K y cc nL rt d mc ms) (hd : decode cc pc = .ok (.getfield idx, 3)) (lk : q_lkF y.cls idx ci j) (hkd : q_kd (q_ty ci j) = 2) (h : q_gR M k ci j f = some res) (kk : ∀ v, f v = some res → q_W K nL Q ce sl M (pc + 3) L (q_rc v :: st)) : q_W K nL Q ce sl M pc L (.ref k :: st) := q_getR C hd lk hkd h (kk _)
theorem x_putI {k ci j idx : Nat} {v : Int32} {f : q_Mem → Option β} (C : q_C K y cc nL rt d mc ms) (hd : decode cc pc = .ok (.putfield idx, 3)) (lk : q_lkF y.cls idx ci j) (hf : ∀ r, q_cl[ci]? = some r → (r.2.1 j).2.2.2 = false) (hty : q_ty ci j = .int) (h : q_pI M k ci j v f = some res) (kk : ∀ M', f M' = some res → q_W K nL Q ce sl M' (pc + 3) L st) : q_W K nL Q ce sl M pc L (.int v :: .ref k :: st) := q_putI C hd lk hf hty h (kk _)
theorem x_putZ {k ci j idx : Nat} {v : Int32} {f : q_Mem → Option β} (C : q_C K y cc nL rt d mc ms) (hd : decode cc pc = .ok (.putfield idx, 3)) (lk : q_lkF y.cls idx ci j) (hf : ∀ r, q_cl[ci]? = some r → (r.2.1 j).2.2.2 = false) (hty : q_ty ci j = .boolean) (h : q_pZ M k ci j v f = some res) (kk : ∀ M', f M' = some res → q_W K nL Q ce sl M' (pc + 3) L st) : q_W K nL Q ce sl M pc L (.int v :: .ref k :: st) := q_putZ C hd lk hf hty h (kk _)
theorem x_putL {k ci j idx : Nat} {v : Int64} {f : q_Mem → Option β} (C : q_C K y cc nL rt d mc ms) (hd : decode cc pc = .ok (.putfield idx, 3)) (lk : q_lkF y.cls idx ci j) (hf : ∀ r, q_cl[ci]? = some r → (r.2.1 j).2.2.2 = false) (hty : q_ty ci j = .long) (h : q_pL M k ci j v f = some res) (kk : ∀ M', f M' = some res → q_W K nL Q ce sl M' (pc + 3) L st) : q_W K nL Q ce sl M pc L (.long v :: .ref k :: st) := q_putL C hd lk hf hty h (kk _)
/-- v: the reference's code -/
theorem x_putR {k ci j idx : Nat} (v : Nat) {va : Value} {f : q_Mem → Option β} (C : q_C K y cc nL rt d mc ms) (hd : decode cc pc = .ok (.putfield idx, 3)) (lk : q_lkF y.cls idx ci j) (hf : ∀ r, q_cl[ci]? = some r → (r.2.1 j).2.2.2 = false ∨ (y.name = "<init>" ∧ (r.2.1 j).1 = y.cls ∧ Cond.fieldLink y.cls idx r.1 (r.2.1 j).2.1 (r.2.1 j).2.2.1 ∈ q_gw)) (hty : (∃ n, q_ty ci j = .object n) ∨ ∃ t, q_ty ci j = .array t) (hv : va = q_rc v) (h : q_pR M k ci j v f = some res) (kk : ∀ M', f M' = some res → q_W K nL Q ce sl M' (pc + 3) L st) : q_W K nL Q ce sl M pc L (va :: .ref k :: st) := hv ▸ q_putR C hd lk hf hty h (kk _)
theorem x_iald {a : Nat} {i : Int32} {f : Int32 → Option β} (C : q_C K y cc nL rt d mc ms) (hd : decode cc pc = .ok (.iaload, 1)) (h : q_lI M 0 a i f = some res) (kk : ∀ v, f v = some res → q_W K nL Q ce sl M (pc + 1) L (.int v :: st)) : q_W K nL Q ce sl M pc L (.int i :: .ref a :: st) := q_iald C hd h (kk _)
theorem x_bald {a : Nat} {i : Int32} {f : Int32 → Option β} (C : q_C K y cc nL rt d mc ms) (hd : decode cc pc = .ok (.baload, 1)) (h : q_lI M 1 a i f = some res) (kk : ∀ v, f v = some res → q_W K nL Q ce sl M (pc + 1) L (.int v :: st)) : q_W K nL Q ce sl M pc L (.int i :: .ref a :: st) := q_bald C hd h (kk _)
theorem x_lald {a : Nat} {i : Int32} {f : Int64 → Option β} (C : q_C K y cc nL rt d mc ms) (hd : decode cc pc = .ok (.laload, 1)) (h : q_lL M a i f = some res) (kk : ∀ v, f v = some res → q_W K nL Q ce sl M (pc + 1) L (.long v :: st)) : q_W K nL Q ce sl M pc L (.int i :: .ref a :: st) := q_lald C hd h (kk _)
theorem x_aald {t a : Nat} {i : Int32} {f : Nat → Option β} (C : q_C K y cc nL rt d mc ms) (hd : decode cc pc = .ok (.aaload, 1)) (ht : t = 3 ∨ t = 4 ∨ t = 5) (h : q_lR M t a i f = some res) (kk : ∀ v, f v = some res → q_W K nL Q ce sl M (pc + 1) L (q_rc v :: st)) : q_W K nL Q ce sl M pc L (.int i :: .ref a :: st) := q_aald C hd ht h (kk _)
theorem x_iast {a : Nat} {i v : Int32} {f : q_Mem → Option β} (C : q_C K y cc nL rt d mc ms) (hd : decode cc pc = .ok (.iastore, 1)) (h : q_tI M a i v f = some res) (kk : ∀ M', f M' = some res → q_W K nL Q ce sl M' (pc + 1) L st) : q_W K nL Q ce sl M pc L (.int v :: .int i :: .ref a :: st) := q_iast C hd h (kk _)
theorem x_bast {a : Nat} {i v : Int32} {f : q_Mem → Option β} (C : q_C K y cc nL rt d mc ms) (hd : decode cc pc = .ok (.bastore, 1)) (h : q_tB M a i v f = some res) (kk : ∀ M', f M' = some res → q_W K nL Q ce sl M' (pc + 1) L st) : q_W K nL Q ce sl M pc L (.int v :: .int i :: .ref a :: st) := q_bast C hd h (kk _)
theorem x_last {a : Nat} {i : Int32} {v : Int64} {f : q_Mem → Option β} (C : q_C K y cc nL rt d mc ms) (hd : decode cc pc = .ok (.lastore, 1)) (h : q_tL M a i v f = some res) (kk : ∀ M', f M' = some res → q_W K nL Q ce sl M' (pc + 1) L st) : q_W K nL Q ce sl M pc L (.long v :: .int i :: .ref a :: st) := q_last C hd h (kk _)
theorem x_alen {a : Nat} {f : Int32 → Option β} (C : q_C K y cc nL rt d mc ms) (hd : decode cc pc = .ok (.arraylength, 1)) (h : q_al M a f = some res) (kk : ∀ v, f v = some res → q_W K nL Q ce sl M (pc + 1) L (.int v :: st)) : q_W K nL Q ce sl M pc L (.ref a :: st) := q_alen C hd h (fun _ _ _ h => kk _ h)
theorem x_newa {n : Int32} {t b : Nat} {atype : ArrayType} {f : Nat → q_Mem → Option β} (C : q_C K y cc nL rt d mc ms) (hd : decode cc pc = .ok (.newarray atype, 2)) (ht : (t = 0 ∧ atype = .int) ∨ (t = 1 ∧ atype = .byte) ∨ (t = 2 ∧ atype = .long)) (hw : Cond.arrayClass (newarray.typeOf atype) ∈ q_gw) (hb0 : b ≤ 10000) (h : q_nA M t n b f = some res) (hcs : ce + 1 ≤ mc ∧ sl + b ≤ ms)
    (kk : ∀ k M', f k M' = some res → q_W K nL Q (ce + 1) (sl + b) M' (pc + 2) L (.ref k :: st)) : q_W K nL Q ce sl M pc L (.int n :: st) := q_newa C hd ht hw hb0 h hcs (kk _ _)
theorem x_new {ci N idx : Nat} {Cn : String} {T : u_T} {f : Nat → q_Mem → Option β} (C : q_C K y cc nL rt d mc ms) (hd : decode cc pc = .ok (.new idx, 3)) (hc : q_cl[ci]? = some (Cn, T, N)) (hcl : q_clok ci) (hw : Cond.classLink y.cls idx Cn ∈ q_gw) (hw2 : Cond.instantiable Cn N ∈ q_gw) (hw3 : Cond.initialized Cn ∈ q_gw) (hdf : ∀ j, j < N → q_ty ci j = .int ∨ q_ty ci j = .boolean ∨ q_ty ci j = .long ∨ (∃ n, q_ty ci j = .object n) ∨ ∃ t, q_ty ci j = .array t) (h : q_nO M ci f = some res) (hcs : ce + 1 ≤ mc ∧ sl + N ≤ ms)
    (kk : ∀ k M', f k M' = some res → q_W K nL Q (ce + 1) (sl + N) M' (pc + 3) L (.ref k :: st)) : q_W K nL Q ce sl M pc L st := q_new C hd hc hcl hw hw2 hw3 hdf h hcs (kk _ _)
theorem x_nn {r : Nat} {f : Nat → Option β} (h : q_nn r f = some res) (kk : ∀ n, f n = some res → q_W K nL Q ce sl M pc L (.ref n :: st)) : q_W K nL Q ce sl M pc L (q_rc r :: st) := q_nnW (P := fun c => q_W K nL Q ce sl M pc L (q_rc c :: st)) h kk
theorem x_copy {idx a b : Nat} {sp dp n : Int32} {f : q_Mem → Option β} (C : q_C K y cc nL rt d mc ms) (hd : decode cc pc = .ok (.invokestatic idx, 3)) (hw : Cond.methodLink y.cls idx arraycopyName ∈ q_gw) (hw2 : Cond.native arraycopyName ∈ q_gw) (hw3 : Cond.static arraycopyName ∈ q_gw) (hw4 : Cond.initialized "java/lang/System" ∈ q_gw) (hd1 : 1 ≤ d) (h8 : (st.map fun v => v.category).sum ≤ 8) (h : q_cp M a sp b dp n f = some res)
    (kk : ∀ M', f M' = some res → q_W K nL Q ce sl M' (pc + 3) L st) : q_W K nL Q ce sl M pc L (.int n :: .int dp :: .ref b :: .int sp :: .ref a :: st) := q_copy C hd hw hw2 hw3 hw4 hd1 h8 h (kk _)
/-! calls by what they answer -/
theorem x_callS {y' : MethodName} {cc' : ByteArray} {nL' n d' mc' ms' idx : Nat} {rt' : Option FieldType} {av : List Value} {v : Value} {M1 : q_Mem} (C : q_C K y cc nL rt d mc ms) (hd : decode cc pc = .ok (.invokestatic idx, 3)) (lk : q_lM y.cls idx y') (mt : q_mS y' cc' nL' rt' n) (hM : q_Met K.2.1 (q_kG K) y' cc' nL' rt' d' mc' ms' av M (some v) M1) (hst : st0 = av.reverse ++ st) (hn : av.length = n) (h8 : (st.map fun v => v.category).sum ≤ 8) (hdd : d' + 1 ≤ d ∧ nL' ≤ 45) (hcs : ce + mc' ≤ mc ∧ sl + ms' ≤ ms) (kk : q_W K nL Q (ce + mc') (sl + ms') M1 (pc + 3) L (v :: st)) : q_W K nL Q ce sl M pc L st0 := q_callS C hd lk mt hM hst hn h8 hdd hcs kk
theorem x_callSv {y' : MethodName} {cc' : ByteArray} {nL' n d' mc' ms' idx : Nat} {rt' : Option FieldType} {av : List Value} {M1 : q_Mem} (C : q_C K y cc nL rt d mc ms) (hd : decode cc pc = .ok (.invokestatic idx, 3)) (lk : q_lM y.cls idx y') (mt : q_mS y' cc' nL' rt' n) (hM : q_Met K.2.1 (q_kG K) y' cc' nL' rt' d' mc' ms' av M none M1) (hst : st0 = av.reverse ++ st) (hn : av.length = n) (h8 : (st.map fun v => v.category).sum ≤ 8) (hdd : d' + 1 ≤ d ∧ nL' ≤ 45) (hcs : ce + mc' ≤ mc ∧ sl + ms' ≤ ms) (kk : q_W K nL Q (ce + mc') (sl + ms') M1 (pc + 3) L st) : q_W K nL Q ce sl M pc L st0 := q_callS C hd lk mt hM hst hn h8 hdd hcs kk
theorem x_callV {y' : MethodName} {cc' : ByteArray} {nL' n d' mc' ms' idx k ci : Nat} {rt' : Option FieldType} {av : List Value} {v : Value} {M1 : q_Mem} (C : q_C K y cc nL rt d mc ms) (hd : decode cc pc = .ok (.invokevirtual idx, 3)) (lk : q_lM y.cls idx y') (mt : q_mV y' cc' nL' rt' n) (hci : ∃ r, q_cl[ci]? = some r ∧ r.1 = y'.cls) (hk : M.2.2.2[k]? = some (.inl ci)) (hM : q_Met K.2.1 (q_kG K) y' cc' nL' rt' d' mc' ms' (.ref k :: av) M (some v) M1) (hst : st0 = av.reverse ++ .ref k :: st) (hn : av.length = n) (h8 : (st.map fun v => v.category).sum ≤ 8) (hdd : d' + 1 ≤ d ∧ nL' ≤ 45) (hcs : ce + mc' ≤ mc ∧ sl + ms' ≤ ms) (kk : q_W K nL Q (ce + mc') (sl + ms') M1 (pc + 3) L (v :: st)) : q_W K nL Q ce sl M pc L st0 := q_callV C hd lk mt hci hk hM hst hn h8 hdd hcs kk
theorem x_callVv {y' : MethodName} {cc' : ByteArray} {nL' n d' mc' ms' idx k ci : Nat} {rt' : Option FieldType} {av : List Value} {M1 : q_Mem} (C : q_C K y cc nL rt d mc ms) (hd : decode cc pc = .ok (.invokevirtual idx, 3)) (lk : q_lM y.cls idx y') (mt : q_mV y' cc' nL' rt' n) (hci : ∃ r, q_cl[ci]? = some r ∧ r.1 = y'.cls) (hk : M.2.2.2[k]? = some (.inl ci)) (hM : q_Met K.2.1 (q_kG K) y' cc' nL' rt' d' mc' ms' (.ref k :: av) M none M1) (hst : st0 = av.reverse ++ .ref k :: st) (hn : av.length = n) (h8 : (st.map fun v => v.category).sum ≤ 8) (hdd : d' + 1 ≤ d ∧ nL' ≤ 45) (hcs : ce + mc' ≤ mc ∧ sl + ms' ≤ ms) (kk : q_W K nL Q (ce + mc') (sl + ms') M1 (pc + 3) L st) : q_W K nL Q ce sl M pc L st0 := q_callV C hd lk mt hci hk hM hst hn h8 hdd hcs kk
end QX
section QY
variable {K : q_K} {y : MethodName} {cc : ByteArray} {nL : Nat} {rt : Option FieldType} {d mc ms : Nat} {Q : State → Prop} {ce sl : Nat} {M : q_Mem} {pc : Nat} {L : List (Option Value)} {st st0 : List Value}
/-! a reference by its code, null or not, in a local -/
theorem q_astoreC_n {i : Fin 4} {x : Nat} {L' : List (Option Value)} (C : q_C K y cc nL rt d mc ms) (hd : decode cc pc = .ok (.astore_n i, 1)) (hi : (i : Nat) < nL) (hn : q_noL L i = true) (hL : L.set i (some (q_rc x)) = L') (k : q_W K nL Q ce sl M (pc + 1) L' st) : q_W K nL Q ce sl M pc L (q_rc x :: st) := by
  obtain ⟨p, l, e, R, s, m, args, below, meth, c, G⟩ := K
  obtain ⟨hx, hb, -⟩ := C
  intro H locs ls hM hS hl
  cases x with
  | zero => exact lv_astore_nN hx hb hd rfl (q_as_has hl) hi rfl (fun ls' h' => k H locs ls' hM hS (hL ▸ q_LH_set1 (v := .null) hi hn h'))
  | succ x => exact lv_astore_n hx hb hd rfl (q_as_has hl) hi rfl (fun ls' h' => k H locs ls' hM hS (hL ▸ q_LH_set1 (v := .ref x) hi hn h'))
theorem q_aloadC_n {i : Fin 4} {x : Nat} (C : q_C K y cc nL rt d mc ms) (hd : decode cc pc = .ok (.aload_n i, 1)) (hi : L[(i : Nat)]? = some (some (q_rc x))) (k : q_W K nL Q ce sl M (pc + 1) L (q_rc x :: st)) : q_W K nL Q ce sl M pc L st := by
  obtain ⟨p, l, e, R, s, m, args, below, meth, c, G⟩ := K
  obtain ⟨hx, hb, -⟩ := C
  intro H locs ls hM hS hl
  cases x with
  | zero => exact lv_aload_nN hx hb hd rfl (hl.2.2 _ _ hi) (k H locs ls hM hS hl)
  | succ x => exact lv_aload_n hx hb hd rfl (hl.2.2 _ _ hi) (k H locs ls hM hS hl)
theorem x_callS0 {y' : MethodName} {cc' : ByteArray} {nL' n d' idx : Nat} {rt' : Option FieldType} {av : List Value} {v : Value} {M1 : q_Mem} (C : q_C K y cc nL rt d mc ms) (hd : decode cc pc = .ok (.invokestatic idx, 3)) (lk : q_lM y.cls idx y') (mt : q_mS y' cc' nL' rt' n) (hM : q_Met K.2.1 (q_kG K) y' cc' nL' rt' d' 0 0 av M (some v) M1) (hst : st0 = av.reverse ++ st) (hn : av.length = n) (h8 : (st.map fun v => v.category).sum ≤ 8) (hdd : d' + 1 ≤ d ∧ nL' ≤ 45) (hcs : ce ≤ mc ∧ sl ≤ ms) (kk : q_W K nL Q ce sl M1 (pc + 3) L (v :: st)) : q_W K nL Q ce sl M pc L st0 := q_callS C hd lk mt hM hst hn h8 hdd hcs kk
theorem x_callSv0 {y' : MethodName} {cc' : ByteArray} {nL' n d' idx : Nat} {rt' : Option FieldType} {av : List Value} {M1 : q_Mem} (C : q_C K y cc nL rt d mc ms) (hd : decode cc pc = .ok (.invokestatic idx, 3)) (lk : q_lM y.cls idx y') (mt : q_mS y' cc' nL' rt' n) (hM : q_Met K.2.1 (q_kG K) y' cc' nL' rt' d' 0 0 av M none M1) (hst : st0 = av.reverse ++ st) (hn : av.length = n) (h8 : (st.map fun v => v.category).sum ≤ 8) (hdd : d' + 1 ≤ d ∧ nL' ≤ 45) (hcs : ce ≤ mc ∧ sl ≤ ms) (kk : q_W K nL Q ce sl M1 (pc + 3) L st) : q_W K nL Q ce sl M pc L st0 := q_callS C hd lk mt hM hst hn h8 hdd hcs kk
theorem x_callV0 {y' : MethodName} {cc' : ByteArray} {nL' n d' idx k ci : Nat} {rt' : Option FieldType} {av : List Value} {v : Value} {M1 : q_Mem} (C : q_C K y cc nL rt d mc ms) (hd : decode cc pc = .ok (.invokevirtual idx, 3)) (lk : q_lM y.cls idx y') (mt : q_mV y' cc' nL' rt' n) (hci : ∃ r, q_cl[ci]? = some r ∧ r.1 = y'.cls) (hk : M.2.2.2[k]? = some (.inl ci)) (hM : q_Met K.2.1 (q_kG K) y' cc' nL' rt' d' 0 0 (.ref k :: av) M (some v) M1) (hst : st0 = av.reverse ++ .ref k :: st) (hn : av.length = n) (h8 : (st.map fun v => v.category).sum ≤ 8) (hdd : d' + 1 ≤ d ∧ nL' ≤ 45) (hcs : ce ≤ mc ∧ sl ≤ ms) (kk : q_W K nL Q ce sl M1 (pc + 3) L (v :: st)) : q_W K nL Q ce sl M pc L st0 := q_callV C hd lk mt hci hk hM hst hn h8 hdd hcs kk
theorem x_callVv0 {y' : MethodName} {cc' : ByteArray} {nL' n d' idx k ci : Nat} {rt' : Option FieldType} {av : List Value} {M1 : q_Mem} (C : q_C K y cc nL rt d mc ms) (hd : decode cc pc = .ok (.invokevirtual idx, 3)) (lk : q_lM y.cls idx y') (mt : q_mV y' cc' nL' rt' n) (hci : ∃ r, q_cl[ci]? = some r ∧ r.1 = y'.cls) (hk : M.2.2.2[k]? = some (.inl ci)) (hM : q_Met K.2.1 (q_kG K) y' cc' nL' rt' d' 0 0 (.ref k :: av) M none M1) (hst : st0 = av.reverse ++ .ref k :: st) (hn : av.length = n) (h8 : (st.map fun v => v.category).sum ≤ 8) (hdd : d' + 1 ≤ d ∧ nL' ≤ 45) (hcs : ce ≤ mc ∧ sl ≤ ms) (kk : q_W K nL Q ce sl M1 (pc + 3) L st) : q_W K nL Q ce sl M pc L st0 := q_callV C hd lk mt hci hk hM hst hn h8 hdd hcs kk
end QY
section QZ
variable {K : q_K} {y : MethodName} {cc : ByteArray} {nL : Nat} {rt : Option FieldType} {d mc ms : Nat} {Q : State → Prop} {ce sl : Nat} {M : q_Mem} {pc : Nat} {L : List (Option Value)} {st st0 : List Value}
theorem x_iconst {n : Int} {v : Int32} (C : q_C K y cc nL rt d mc ms) (hd : decode cc pc = .ok (.iconst n, 1)) (hv : Int32.ofInt n = v) (k : q_W K nL Q ce sl M (pc + 1) L (.int v :: st)) : q_W K nL Q ce sl M pc L st := by
  subst hv
  exact q_iconst C hd k
theorem x_bipush {n : Int} {v : Int32} (C : q_C K y cc nL rt d mc ms) (hd : decode cc pc = .ok (.bipush n, 2)) (hv : (Int8.ofInt n).toInt32 = v) (k : q_W K nL Q ce sl M (pc + 2) L (.int v :: st)) : q_W K nL Q ce sl M pc L st := by
  subst hv
  exact q_bipush C hd k
theorem x_sipush {n : Int} {v : Int32} (C : q_C K y cc nL rt d mc ms) (hd : decode cc pc = .ok (.sipush n, 3)) (hv : (Int16.ofInt n).toInt32 = v) (k : q_W K nL Q ce sl M (pc + 3) L (.int v :: st)) : q_W K nL Q ce sl M pc L st := by
  subst hv
  exact q_sipush C hd k
theorem x_lconst {n : Fin 2} {v : Int64} (C : q_C K y cc nL rt d mc ms) (hd : decode cc pc = .ok (.lconst n, 1)) (hv : Int64.ofNat (n : Nat) = v) (k : q_W K nL Q ce sl M (pc + 1) L (.long v :: st)) : q_W K nL Q ce sl M pc L st := by
  subst hv
  exact q_lconst C hd k
theorem x_iinc {i : Nat} {n : Int} {x w : Int32} {L' : List (Option Value)} (C : q_C K y cc nL rt d mc ms) (hd : decode cc pc = .ok (.iinc i n, 3)) (hx0 : L[i]? = some (some (.int x))) (hw : Int32.ofInt n = w) (hi : i < nL) (hn : q_noL L i = true) (hL : L.set i (some (.int (x + w))) = L') (k : q_W K nL Q ce sl M (pc + 3) L' st) : q_W K nL Q ce sl M pc L st := by
  subst hw
  exact q_iinc C hd hx0 hi hn hL k
theorem x_callI {y' : MethodName} {cc' : ByteArray} {nL' n d' mc' ms' idx k : Nat} {av : List Value} {M1 : q_Mem} (C : q_C K y cc nL rt d mc ms) (hd : decode cc pc = .ok (.invokespecial idx, 3)) (lk : q_lM y.cls idx y') (mt : q_mI y' cc' nL' n) (hM : q_Met K.2.1 (q_kG K) y' cc' nL' none d' mc' ms' (.ref k :: av) M none M1) (hst : st0 = av.reverse ++ .ref k :: st) (hn : av.length = n) (h8 : (st.map fun v => v.category).sum ≤ 8) (hdd : d' + 1 ≤ d ∧ nL' ≤ 45) (hcs : ce + mc' ≤ mc ∧ sl + ms' ≤ ms) (kk : q_W K nL Q (ce + mc') (sl + ms') M1 (pc + 3) L st) : q_W K nL Q ce sl M pc L st0 := q_callI C hd lk mt hM hst hn h8 hdd hcs kk
end QZ
