def q_rtm (ty : FieldType) (x : Int32) (M : q_Mem) : Option (Int32 × q_Mem) := if narrow ty (.int x) = .int x then some (x, M) else none
theorem q_rtmE {ty : FieldType} {x : Int32} {M : q_Mem} {r : Int32 × q_Mem} (h : q_rtm ty x M = some r) : narrow ty (.int x) = .int x ∧ (x, M) = r := by
  unfold q_rtm at h
  split at h
  · rename_i hs
    exact ⟨hs, Option.some.inj h⟩
  · cases h
def q_rt (ty : FieldType) (x : Int32) : Option Int32 := if narrow ty (.int x) = .int x then some x else none
theorem q_rtE {ty : FieldType} {x r : Int32} (h : q_rt ty x = some r) : narrow ty (.int x) = .int x ∧ x = r := by
  unfold q_rt at h
  split at h
  · rename_i hs
    exact ⟨hs, Option.some.inj h⟩
  · cases h
section QP
variable {K : q_K} {y : MethodName} {cc : ByteArray} {nL : Nat} {rt : Option FieldType} {d mc ms : Nat} {Q : State → Prop} {ce sl : Nat} {M : q_Mem} {pc : Nat} {L : List (Option Value)} {st st0 : List Value} {β : Type} {res : β}
theorem q_astoreC {i x : Nat} {L' : List (Option Value)} (C : q_C K y cc nL rt d mc ms) (hd : decode cc pc = .ok (.astore i, 2)) (hi : i < nL) (hn : q_noL L i = true) (hL : L.set i (some (q_rc x)) = L') (k : q_W K nL Q ce sl M (pc + 2) L' st) : q_W K nL Q ce sl M pc L (q_rc x :: st) := by
  obtain ⟨p, l, e, R, s, m, args, below, meth, c, G⟩ := K
  obtain ⟨hx, hb, -⟩ := C
  intro H locs ls hM hS hl
  cases x with
  | zero => exact lv_astoreN hx hb hd (q_as_has hl) hi rfl (fun ls' h' => k H locs ls' hM hS (hL ▸ q_LH_set1 (v := .null) hi hn h'))
  | succ x => exact lv_astore hx hb hd (q_as_has hl) hi rfl (fun ls' h' => k H locs ls' hM hS (hL ▸ q_LH_set1 (v := .ref x) hi hn h'))
theorem q_aloadC {i x : Nat} (C : q_C K y cc nL rt d mc ms) (hd : decode cc pc = .ok (.aload i, 2)) (hi : L[i]? = some (some (q_rc x))) (k : q_W K nL Q ce sl M (pc + 2) L (q_rc x :: st)) : q_W K nL Q ce sl M pc L st := by
  obtain ⟨p, l, e, R, s, m, args, below, meth, c, G⟩ := K
  obtain ⟨hx, hb, -⟩ := C
  intro H locs ls hM hS hl
  cases x with
  | zero => exact lv_aloadN hx hb hd (hl.2.2 _ _ hi) (k H locs ls hM hS hl)
  | succ x => exact lv_aload hx hb hd (hl.2.2 _ _ hi) (k H locs ls hM hS hl)
/-- an object into an array of its class -/
theorem x_aast {t a ci v : Nat} {i : Int32} {f : q_Mem → Option β} (C : q_C K y cc nL rt d mc ms) (hd : decode cc pc = .ok (.aastore, 1)) (ht : (t = 3 ∧ ci = 4) ∨ (t = 4 ∧ ci = 10) ∨ (t = 5 ∧ ci = 8)) (h : q_tR M t a i ci v f = some res) (kk : ∀ M', f M' = some res → q_W K nL Q ce sl M' (pc + 1) L st) : q_W K nL Q ce sl M pc L (.ref v :: .int i :: .ref a :: st) := by
  obtain ⟨p, l, e, R, s, m, args, below, meth, c, G⟩ := K
  obtain ⟨hx, hb, hr, hml, hown, hlo, hnm, hT, hG, hST, -⟩ := C
  unfold q_tR at h
  split at h
  · cases h
  · rename_i hin0
    have hin : ¬ (i < 0 ∨ q_ln M t a ≤ i.toNatClampNeg) := fun q => hin0 (Or.inl (Or.inl q))
    have ha : q_NS ≤ a := Nat.not_lt.mp fun q => hin0 (Or.inl (Or.inr q))
    have hsv : M.2.2.2[v]? = some (.inl ci) := Classical.byContradiction fun q => hin0 (Or.inr q)
    have hlt : i.toNatClampNeg < q_ln M t a := Nat.not_le.mp fun q => hin (Or.inr q)
    have h0 : ¬ i < 0 := fun q => hin (Or.inl q)
    obtain ⟨n, hs, hn⟩ := q_ln_pos hlt
    intro H locs ls hM hS hl0
    rw [hn] at hin hlt
    have hP := q_arrP hM ha hs (by omega)
    obtain ⟨r, hc, hkt⟩ : ∃ r, q_cl[ci]? = some r ∧ ∃ q, (q_tys G)[t]? = some (q, .object r.1) ∧ q = G.2.2.2 t := by
      rcases ht with ⟨e1, e2⟩ | ⟨e1, e2⟩ | ⟨e1, e2⟩ <;> subst e1 <;> subst e2
      · exact ⟨_, rfl, _, rfl, rfl⟩
      · exact ⟨_, rfl, _, rfl, rfl⟩
      · exact ⟨_, rfl, _, rfl, rfl⟩
    obtain ⟨q0, hkt, rfl⟩ := hkt
    have hv := q_dyn hM hsv hc
    obtain ⟨r', hr', cellV, g1, g2, g3, -⟩ := hM.2.2 v _ hv hsv (by simp [q_jk])
    have hcls := (hT.2.2.1 ci r hc).2
    obtain ⟨kA, comp, k1, k2, k3, -⟩ := (hT.2.2.2 t _ hkt).2
    have hcomp : comp = G.2.2.1.1 ci := Option.some.inj (k3.symm.trans hcls.1)
    subst hcomp
    obtain ⟨kC, hkC, -⟩ := hcls.2
    have hct : q_ct G M a t = .inr (.inr (.inr (.inr (fun j => q_oa G (M.2.2.1 a j))))) := by
      rcases ht with ⟨e1, -⟩ | ⟨e1, -⟩ | ⟨e1, -⟩ <;> subst e1 <;> rfl
    have hcell : H[q_ad G a]? = some (vp_cell (G.2.2.2 t) (n, .inr (.inr (.inr (.inr (fun j => q_oa G (M.2.2.1 a j))))))) := by
      have := hP 0 _ rfl
      rw [hct] at this
      exact this
    refine W.aast hx hb hcell (fun q h => by cases h) (fun h => by cases h) k1 k2 rfl hkC ⟨h0, by show _ < (arrV _ _ _).slots.size; rw [arrV_size]; exact hlt⟩ g1 (fun q h => by rw [g3] at h; cases h) (by rw [g2]; exact hkC) (by rw [g2]; exact va_assign hcls) rfl rfl hd fun H1 e1 z oq => ?_
    refine kk _ h H1 _ ls (q_Sim_set hM ha hs rfl q_sR_o ?_ z oq) (hS.put z oq (q_Aad ha)) hl0
    have hct' : q_ct G (q_sR M a i.toNatClampNeg (v + 1)) a t = .inr (.inr (.inr (.inr (fun j => q_oa G ((q_sR M a i.toNatClampNeg (v + 1)).2.2.1 a j))))) := by
      rcases ht with ⟨e1, -⟩ | ⟨e1, -⟩ | ⟨e1, -⟩ <;> subst e1 <;> rfl
    show H1[q_ad G a]? = some (vp_cell (G.2.2.2 t) (n, q_ct G (q_sR M a i.toNatClampNeg (v + 1)) a t))
    rw [e1, hct', vp_cell_q, vp_cell_q, arrV_store]
    congr 2
    funext q
    by_cases hq : q = i.toNatClampNeg
    · subst hq
      simp [updV, q_sR, q_u2, va_up, va_rf, q_oa]
    · simp [updV, q_sR, q_u2, va_up, hq]
/-- a new array of references, all null -/
theorem x_newq {n : Int32} {t b idx : Nat} {Cn : String} {f : Nat → q_Mem → Option β} (C : q_C K y cc nL rt d mc ms) (hd : decode cc pc = .ok (.anewarray idx, 3)) (hw : Cond.classLink y.cls idx Cn ∈ q_gw) (ht : (t = 3 ∧ Cn = RX4) ∨ (t = 4 ∧ Cn = RX10) ∨ (t = 5 ∧ Cn = RX8)) (hb0 : b ≤ 10000) (h : q_nA M t n b f = some res) (hcs : ce + 1 ≤ mc ∧ sl + b ≤ ms)
    (kk : ∀ k M', f k M' = some res → q_W K nL Q (ce + 1) (sl + b) M' (pc + 3) L (.ref k :: st)) : q_W K nL Q ce sl M pc L (.int n :: st) := by
  obtain ⟨p, l, e, R, s, m, args, below, meth, c, G⟩ := K
  obtain ⟨hx, hb, hr, hml, hown, hlo, hnm, hT, hG, hST, hR1, hR2, hR3, hR4⟩ := C
  unfold q_nA at h
  split at h
  · cases h
  · rename_i hn
    intro H locs ls hM hS hl0
    have hn0 : ¬ n < 0 := fun q => hn (Or.inl q)
    have hn1 : n.toNatClampNeg ≤ b := Nat.not_lt.mp fun q => hn (Or.inr q)
    have htop := q_Sim_top hM
    have hover : va_AO Cn s := by
      rcases ht with ⟨-, e1⟩ | ⟨-, e1⟩ | ⟨-, e1⟩ <;> subst e1
      · exact hST.2.2.2.2.1.1
      · exact hST.2.2.2.2.1.2.1
      · exact hST.2.2.2.2.1.2.2
    refine W.anew hx hb hown (q_hts hT args _ hw) (va_AO.use hover) rfl hd rfl hn0 (by omega) (by omega) (by omega) fun cA kA comp f1 f2 f3 f4 => ?_
    generalize hH1 : H.push ({ cls := cA, slots := Array.replicate n.toNatClampNeg .null, vm := .none } : Cell) = H1
    have z1 : H1.size = H.size + 1 := by rw [← hH1, Array.size_push]
    have e1 : H1[H.size]? = some (arrV cA n.toNatClampNeg (fun _ => .null)) := by rw [← hH1, Array.getElem?_push_size, ← arrV_new]
    have o1 : ∀ q : Nat, q < H.size → H1[q]? = H[q]? := fun q hq => by rw [← hH1, Array.getElem?_push, if_neg (Nat.ne_of_lt hq)]
    have hz := kk _ _ h H1 locs ls (q_Sim_push hM ?_ z1 o1 (q_Sim_len hM)) (q_S_push hS z1 o1) hl0
    · show W p l e R s m args below meth c H1 locs (ce + 1) (sl + n.toNatClampNeg) Q (F0 m (pc + 3) ls (.ref H.size :: st.map (q_cv G)))
      rw [← htop]
      exact W.widen (Nat.le_refl _) (by omega) hz
    · rw [htop]
      have hct : q_ct G (q_push M (.inr (t, n.toNatClampNeg))) M.2.2.2.length t = .inr (.inr (.inr (.inr (fun _ => none)))) := by
        rcases ht with ⟨e2, -⟩ | ⟨e2, -⟩ | ⟨e2, -⟩ <;> subst e2 <;> (show Sum.inr (Sum.inr (Sum.inr (Sum.inr _))) = _; congr 4; funext j; show q_oa G (va_up M.2.2.1 M.2.2.2.length (fun _ => 0) M.2.2.2.length j) = none; rw [q_up_eq]; rfl)
      have hA : cA = G.2.2.2 t := by
        rcases ht with ⟨e2, e3⟩ | ⟨e2, e3⟩ | ⟨e2, e3⟩ <;> subst e2 <;> subst e3
        · obtain ⟨-, -, -, -, -, q⟩ := (hT.2.2.2 3 _ rfl).2; exact Option.some.inj (f1.symm.trans q)
        · obtain ⟨-, -, -, -, -, q⟩ := (hT.2.2.2 4 _ rfl).2; exact Option.some.inj (f1.symm.trans q)
        · obtain ⟨-, -, -, -, -, q⟩ := (hT.2.2.2 5 _ rfl).2; exact Option.some.inj (f1.symm.trans q)
      show H1[H.size]? = some (vp_cell (G.2.2.2 t) (n.toNatClampNeg, q_ct G (q_push M (.inr (t, n.toNatClampNeg))) M.2.2.2.length t))
      rw [hct, e1, hA, vp_cell_q]
      rfl
/-! texts -/
theorem q_strK {G : q_G} {H : Heap} {k : Nat} (hM : q_Sim G M H) (hs : M.2.2.2[k]? = some (.inl 14)) : ∃ i, i < 15 ∧ k = 4 + 2 * i ∧ M.1 k = (fun _ => 0) ∧ M.2.2.1 k = (fun j => if j = 0 then k + 2 else 0) ∧ q_ad G k = G.2.1 k := by
  rcases Nat.lt_or_ge k q_NS with h | h
  · obtain ⟨h1, h2, h3⟩ := hM.1 k h
    rw [hs] at h1
    have h1 := (Option.some.inj h1).symm
    unfold q_stc at h1 h2 h3
    split at h1
    · cases h1
    · rename_i h4
      split at h1
      · cases h1
      · rename_i h34
        split at h1
        · cases h1
        · rename_i h35
          split at h1
          · rename_i hev
            rw [if_neg h4, if_neg h34, if_neg h35, if_pos hev] at h2 h3
            refine ⟨(k - 4) / 2, ?_, by omega, h2, h3, by unfold q_ad; rw [if_pos h]⟩
            have : k < 36 := h
            omega
          · cases h1
  · obtain ⟨r, hr, -⟩ := hM.2.2 k _ h hs (by simp [q_jk])
    simp [q_cl] at hr
theorem x_getSI {k idx : Nat} {f : Int32 → Option β} (C : q_C K y cc nL rt d mc ms) (hd : decode cc pc = .ok (.getfield idx, 3)) (hw : Cond.fieldLink y.cls idx "java/lang/String" "coder" "B" ∈ q_gw) (h : q_gI M k 14 1 f = some res) (kk : ∀ v, f v = some res → q_W K nL Q ce sl M (pc + 3) L (.int v :: st)) : q_W K nL Q ce sl M pc L (.ref k :: st) := by
  obtain ⟨p, l, e, R, s, m, args, below, meth, c, G⟩ := K
  obtain ⟨hx, hb, hr, hml, hown, hlo, hnm, hT, hG, hST, -⟩ := C
  unfold q_gI at h
  split at h
  · rename_i hs
    intro H locs ls hM hS hl0
    obtain ⟨i, hi, rfl, h1, h2, h3⟩ := q_strK hM hs
    rw [h1] at h
    show W p l e R s m args below meth c H locs ce sl Q (F0 m pc ls (.ref (q_ad G (4 + 2 * i)) :: st.map (q_cv G)))
    rw [h3]
    exact vk_getf hx hb (hST.2.1 i hi).2.1 hS hown (q_hts hT args _ hw) (fun x h => h) hd (kk _ h H locs ls hM hS hl0)
  · cases h
theorem x_getSV {k idx : Nat} {f : Nat → Option β} (C : q_C K y cc nL rt d mc ms) (hd : decode cc pc = .ok (.getfield idx, 3)) (hw : Cond.fieldLink y.cls idx "java/lang/String" "value" "[B" ∈ q_gw) (h : q_gR M k 14 0 f = some res) (kk : ∀ v, f v = some res → q_W K nL Q ce sl M (pc + 3) L (q_rc v :: st)) : q_W K nL Q ce sl M pc L (.ref k :: st) := by
  obtain ⟨p, l, e, R, s, m, args, below, meth, c, G⟩ := K
  obtain ⟨hx, hb, hr, hml, hown, hlo, hnm, hT, hG, hST, -⟩ := C
  unfold q_gR at h
  split at h
  · rename_i hs
    intro H locs ls hM hS hl0
    obtain ⟨i, hi, rfl, h1, h2, h3⟩ := q_strK hM hs
    rw [h2] at h
    show W p l e R s m args below meth c H locs ce sl Q (F0 m pc ls (.ref (q_ad G (4 + 2 * i)) :: st.map (q_cv G)))
    rw [h3]
    refine vk_getf hx hb (hST.2.1 i hi).2.2.1 hS hown (q_hts hT args _ hw) (fun x h => h) hd ?_
    have hz := kk _ h H locs ls hM hS hl0
    have e1 : q_cv G (q_rc (4 + 2 * i + 2)) = .ref (G.2.1 (5 + 2 * i)) := by
      show Value.ref (q_ad G (4 + 2 * i + 1)) = _
      unfold q_ad
      rw [if_pos (by show _ < 36; omega), show 4 + 2 * i + 1 = 5 + 2 * i by omega]
    rw [← e1]
    exact hz
  · cases h
/-- a call on a text -/
theorem x_callT {y' : MethodName} {cc' : ByteArray} {nL' n d' idx k : Nat} {rt' : Option FieldType} {av : List Value} {v : Value} {M1 : q_Mem} (C : q_C K y cc nL rt d mc ms) (hd : decode cc pc = .ok (.invokevirtual idx, 3)) (lk : Cond.methodLink y.cls idx y' ∈ q_gw) (mt : q_mV y' cc' nL' rt' n) (hci : y'.cls = "java/lang/String") (hk : M.2.2.2[k]? = some (.inl 14)) (hM : q_Met K.2.1 (q_kG K) y' cc' nL' rt' d' 0 0 (.ref k :: av) M (some v) M1) (hst : st0 = av.reverse ++ .ref k :: st) (hn : av.length = n) (h8 : (st.map fun v => v.category).sum ≤ 8) (hdd : d' + 1 ≤ d ∧ nL' ≤ 45) (hcs : ce ≤ mc ∧ sl ≤ ms) (kk : q_W K nL Q ce sl M1 (pc + 3) L (v :: st)) : q_W K nL Q ce sl M pc L st0 := by
  subst hst
  obtain ⟨p, l, e, R, s, m, args, below, meth, c, G⟩ := K
  obtain ⟨hx, hb, hr, hml, hown, hlo, hnm, hT, hG, hST, hR1, hR2, hR3, hR4⟩ := C
  obtain ⟨⟨m1, m2, m3, m4, m5⟩, m6, m7⟩ := mt
  intro H locs ls hM0 hS hl0
  have hts := q_hts hT args
  obtain ⟨i, hi, rfl, h1, h2, h3⟩ := q_strK hM0 hk
  have hrec : ∃ cell : Cell, H[q_ad G (4 + 2 * i)]? = some cell ∧ cell.vm.isStatics = false ∧ s.vm.findClass y'.cls = some cell.cls := by
    obtain ⟨cell, c1, c2, c3, c4⟩ := (hST.2.1 i hi).1
    rw [h3, hci]
    exact ⟨cell, by rw [hS.2.1 _ (Array.getElem?_eq_some_iff.mp c1).1 c4]; exact c1, c2, c3⟩
  have hpre : PreV s H y'.cls (q_ad G (4 + 2 * i)) (q_Pc G (.ref (4 + 2 * i) :: av) M) (av.map (q_cv G)) := ⟨q_blind, hrec, q_pre (av := .ref (4 + 2 * i) :: av) hT hST hM0 hS⟩
  have hstk : (F0 m pc ls ((av.reverse ++ .ref (4 + 2 * i) :: st).map (q_cv G))).stack = (av.map (q_cv G)).reverse ++ .ref (q_ad G (4 + 2 * i)) :: st.map (q_cv G) := by
    show (av.reverse ++ .ref (4 + 2 * i) :: st).map (q_cv G) = _
    rw [List.map_append, List.map_reverse]
    rfl
  refine q_ofRun (mc' := 0) (ms' := 0) (M1 := M1) (a := (Value.ref (q_ad G (4 + 2 * i)) :: av.map (q_cv G)).toArray) (ov := some v) (rest := st) hG ?_ hS hl0 kk
  exact va_runV (As := av.map (q_cv G)) (rest := st.map (q_cv G)) ⟨hx, hb, hml, hown, hts⟩ hM ⟨callB_of n hts (q_good1 m2) rfl rfl rfl (hts _ m1) (hts _ lk) ⟨m3, m4, m5⟩ (q_room hR1 hR2 hdd 0 0), hts _ m6, hts _ m7⟩ hpre rfl (by rw [List.length_map]; exact hn) hl0.1 hstk (q_st8 h8) hd ⟨by omega, by omega⟩
/-- an end that answers a char, a byte .. -/
theorem q_nret {x : Int32} {r : Int32 × q_Mem} {ty : FieldType} (C : q_C K y cc nL rt d mc ms) (hd : decode cc pc = .ok (.ireturn, 1)) (hrt : rt = some ty) (hc : ce ≤ mc) (hs : sl ≤ ms) (hz : narrow ty (.int x) = .int x) (h : (x, M) = r) : q_W K nL (q_Q K (some (.int r.1)) r.2 mc ms) ce sl M pc L [.int x] := by
  subst h
  obtain ⟨p, l, e, R, s, m, args, below, meth, c, G⟩ := K
  obtain ⟨hx, hb, hr, hml, hown, hlo, hnm, hT, hG, hST, -⟩ := C
  intro H locs ls hM hS hl0
  exact W.widen hc hs (W.zret hx hb (hr.trans hrt) hz (fun t ht _ => q_end hG hM hS (some (.int x)) t ht) hS.2.2 hd hlo)
/-- the formatter that an index's check passes on: null or not -/
theorem q_getsQ {idx : Nat} (C : q_C K y cc nL rt d mc ms) (hd : decode cc pc = .ok (.getstatic idx, 3)) (hw : Cond.fieldLink y.cls idx "jdk/internal/util/Preconditions" "SIOOBE_FORMATTER" "Ljava/util/function/BiFunction;" ∈ q_gw) (kk : ∀ v, q_W K nL Q ce sl M (pc + 3) L (q_rc v :: st)) : q_W K nL Q ce sl M pc L st := by
  obtain ⟨p, l, e, R, s, m, args, below, meth, c, G⟩ := K
  obtain ⟨hx, hb, hr, hml, hown, hlo, hnm, hT, hG, hST, -⟩ := C
  intro H locs ls hM hS hl0
  rcases hST.2.2.2.2.2.1 with hz | hz
  · exact va_gets hx hb hz hS hown (q_hts hT args _ hw) (fun x h => h) hd (kk 0 H locs ls hM hS hl0)
  · refine va_gets hx hb hz hS hown (q_hts hT args _ hw) (fun x h => h) hd ?_
    have := kk 35 H locs ls hM hS hl0
    have e1 : q_cv G (q_rc 35) = .ref (G.2.1 34) := by
      show Value.ref (q_ad G 34) = _
      unfold q_ad
      rw [if_pos (by decide)]
    rw [← e1]
    exact this
end QP
