/-! the tables' words at a state, and at a callee's start -/
theorem q_gw_good {w : Cond} (h : w ∈ q_gw) : (w.onTables && w.keeps) = true ∨ ∃ ty, w = .arrayClass ty := good_of_word (List.mem_filter.mp h).2
theorem q_hts {G : q_G} {s : State} (h : q_TB G s) (args : Array Value) : ∀ w ∈ q_gw, w.before args s = true := fun w hw => word_at (args := #[]) (s := s) (U := s) (State.WarmedH.refl s) (q_gw_good hw) (h.1 w hw)
theorem q_nw_kind {w : Cond} (h : w ∈ q_nw) : q_isN w = true := (List.mem_filter.mp h).2
theorem q_TB_warm {G : q_G} {s U : State} (hW : s.WarmedH U.vm) (h : q_TB G s) : q_TB G U := by
  refine ⟨fun w hw => word_at (args := #[]) hW (q_gw_good hw) (h.1 w hw), fun w hw => ?_, va_K.moved hW.alike h.2.2⟩
  have hk := q_nw_kind hw
  have h1 := h.2.1 w hw
  cases w <;> first | exact va_Nw.warmF hW h1 | exact va_Nw.warmM hW h1 | exact va_Nw.warmC hW h1 | (simp [q_isN] at hk)
theorem q_nwf {G : q_G} {s : State} (h : q_TB G s) (args : Array Value) {w : Cond} (hw : w ∈ q_nw) : w.before args s = true := by
  have hk := q_nw_kind hw
  have h1 := h.2.1 w hw
  cases w <;> first | exact va_Nw.use rfl h1 | (simp [q_isN] at hk)
/-! the classes -/
def q_clok (ci : Nat) : Prop := ∀ r, q_cl[ci]? = some r → (∀ w ∈ u_ws r.1 r.2.1 r.2.2, w ∈ q_gw) ∧ (∀ k, k < r.2.2 → parseFieldDescriptor (r.2.1 k).2.2.1 = some (q_ty ci k)) ∧ (∀ a, a < r.2.2 → ∀ b, b < r.2.2 → a ≠ b → (r.2.1 a).2.1 ≠ (r.2.1 b).2.1)
/-- a field's link: in a class's pool, at a place, the field j of the class ci -/
def q_lkF (own : String) (idx ci j : Nat) : Prop := ∃ r, q_cl[ci]? = some r ∧ q_clok ci ∧ j < r.2.2 ∧ (r.2.1 j).1 = r.1 ∧ ((Cond.fieldLink own idx r.1 (r.2.1 j).2.1 (r.2.1 j).2.2.1) ∈ q_gw ∨ ∃ host, (Cond.fieldLinkNest own idx r.1 (r.2.1 j).2.1 (r.2.1 j).2.2.1 host) ∈ q_nw)
theorem q_nf_of {ci : Nat} {r : vw_C} (h : q_cl[ci]? = some r) : q_nf ci = r.2.2 := by simp [q_nf, h]
theorem q_fs_get {G : q_G} {M : q_Mem} {k ci j : Nat} (h : j < q_nf ci) : (q_fs G M k ci)[j]? = some (q_fv G M k ci j) := by
  simp [q_fs, h]
theorem q_fs_len {G : q_G} {M : q_Mem} {k ci : Nat} : (q_fs G M k ci).length = q_nf ci := by simp [q_fs]
/-! the memory changes at one cell -/
theorem q_ad_dyn {G : q_G} {k : Nat} (h : q_NS ≤ k) : q_ad G k = G.1 + (k - q_NS) := by
  unfold q_ad
  rw [if_neg (Nat.not_lt.mpr h)]
theorem q_ad_inj {G : q_G} {k j : Nat} (hk : q_NS ≤ k) (hj : q_NS ≤ j) (h : q_ad G k = q_ad G j) : k = j := by
  rw [q_ad_dyn hk, q_ad_dyn hj] at h
  omega
theorem q_ce_eq {G : q_G} {M M' : q_Mem} {k : Nat} {h : q_Sh} (h1 : M'.1 k = M.1 k) (h2 : M'.2.1 k = M.2.1 k) (h3 : M'.2.2.1 k = M.2.2.1 k) : q_ce G M' k h = q_ce G M k h := by
  cases h with
  | inl ci =>
    show Sum.inr (ci, q_fs G M' k ci) = Sum.inr (ci, q_fs G M k ci)
    have : q_fs G M' k ci = q_fs G M k ci := by
      unfold q_fs
      apply List.map_congr_left
      intro j _
      unfold q_fv
      rw [h1, h2, h3]
    rw [this]
  | inr x =>
    obtain ⟨t, n⟩ := x
    show Sum.inl (G.2.2.2 t, n, q_ct G M' k t) = Sum.inl (G.2.2.2 t, n, q_ct G M k t)
    have : q_ct G M' k t = q_ct G M k t := by
      unfold q_ct
      rw [h1, h2, h3]
    rw [this]
theorem q_Sim_set {G : q_G} {M M' : q_Mem} {H H1 : Heap} {k : Nat} {h : q_Sh} (hM : q_Sim G M H) (hk : q_NS ≤ k) (hs : M.2.2.2[k]? = some h) (hsh : M'.2.2.2 = M.2.2.2) (ho : ∀ j, j ≠ k → M'.1 j = M.1 j ∧ M'.2.1 j = M.2.1 j ∧ M'.2.2.1 j = M.2.2.1 j) (he : va_at G.2.2.1 q_cl (q_ad G k, q_ce G M' k h) H1) (hz : H1.size = H.size) (hq : ∀ q : Nat, q ≠ q_ad G k → H1[q]? = H[q]?) : q_Sim G M' H1 := by
  obtain ⟨a, b, c⟩ := hM
  refine ⟨fun j hj => ?_, by rw [hz, hsh]; exact b, fun j g hj hg hjk => ?_⟩
  · have hne : j ≠ k := by omega
    rw [hsh, (ho j hne).1, (ho j hne).2.2]
    exact a j hj
  · rw [hsh] at hg
    by_cases e : j = k
    · subst e
      rw [hs] at hg
      cases hg
      exact he
    · rw [q_ce_eq (ho j e).1 (ho j e).2.1 (ho j e).2.2]
      exact (c j g hj hg hjk).kept (hq _ (fun q => e (q_ad_inj hj hk q)))
theorem q_stc_cl (G : q_G) : ∀ k, k < 36 → ∀ ci, (q_stc G k).1 = .inl ci → ci = 14 := by
  intro k hk ci h
  unfold q_stc at h
  split at h
  · cases h
  · split at h
    · cases h
    · split at h
      · cases h
      · split at h
        · cases h; rfl
        · cases h
theorem q_dyn {G : q_G} {M : q_Mem} {H : Heap} {k ci : Nat} {r : vw_C} (hM : q_Sim G M H) (hs : M.2.2.2[k]? = some (.inl ci)) (hc : q_cl[ci]? = some r) : q_NS ≤ k := by
  rcases Nat.lt_or_ge k q_NS with h | h
  · have h1 := (hM.1 k h).1
    rw [hs] at h1
    have h2 := q_stc_cl G k h ci (Option.some.inj h1).symm
    subst h2
    exact absurd hc (by simp [q_cl])
  · exact h
theorem q_up_ne {α : Type} {f : Nat → α} {k j : Nat} {v : α} (h : j ≠ k) : va_up f k v j = f j := by
  unfold va_up
  rw [if_neg h]
theorem q_up_eq {α : Type} {f : Nat → α} {k : Nat} {v : α} : va_up f k v k = v := by
  unfold va_up
  rw [if_pos rfl]
theorem q_sI_o {M : q_Mem} {k j : Nat} {v : Int32} : ∀ a, a ≠ k → (q_sI M k j v).1 a = M.1 a ∧ (q_sI M k j v).2.1 a = M.2.1 a ∧ (q_sI M k j v).2.2.1 a = M.2.2.1 a := fun a h => ⟨q_up_ne h, rfl, rfl⟩
theorem q_sL_o {M : q_Mem} {k j : Nat} {v : Int64} : ∀ a, a ≠ k → (q_sL M k j v).1 a = M.1 a ∧ (q_sL M k j v).2.1 a = M.2.1 a ∧ (q_sL M k j v).2.2.1 a = M.2.2.1 a := fun a h => ⟨rfl, q_up_ne h, rfl⟩
theorem q_sR_o {M : q_Mem} {k j : Nat} {v : Nat} : ∀ a, a ≠ k → (q_sR M k j v).1 a = M.1 a ∧ (q_sR M k j v).2.1 a = M.2.1 a ∧ (q_sR M k j v).2.2.1 a = M.2.2.1 a := fun a h => ⟨rfl, rfl, q_up_ne h⟩
theorem q_sC_o {M : q_Mem} {k : Nat} {f : Nat → Int32} : ∀ a, a ≠ k → (q_sC M k f).1 a = M.1 a ∧ (q_sC M k f).2.1 a = M.2.1 a ∧ (q_sC M k f).2.2.1 a = M.2.2.1 a := fun a h => ⟨q_up_ne h, rfl, rfl⟩
/-- one field of an object -/
theorem q_fs_set {G : q_G} {M M' : q_Mem} {k ci j : Nat} {v : Value} (hv : q_fv G M' k ci j = v) (ho : ∀ i, i ≠ j → q_fv G M' k ci i = q_fv G M k ci i) : ∀ i, i < q_nf ci → vp_V ((q_fs G M k ci).set j v) i = vp_V (q_fs G M' k ci) i := by
  intro i hi
  unfold vp_V
  rw [List.getD_eq_getElem?_getD, List.getD_eq_getElem?_getD, q_fs_get hi]
  by_cases e : i = j
  · subst e
    rw [List.getElem?_set_self (by rw [q_fs_len]; exact hi), hv]
  · rw [List.getElem?_set_ne (Ne.symm e), q_fs_get hi, ho i e]
section QM
variable {K : q_K} {y : MethodName} {cc : ByteArray} {nL : Nat} {rt : Option FieldType} {d mc ms : Nat} {Q : State → Prop} {ce sl : Nat} {M : q_Mem} {pc : Nat} {L : List (Option Value)} {st : List Value}
theorem q_get0 {k ci j idx : Nat} (C : q_C K y cc nL rt d mc ms) (hd : decode cc pc = .ok (.getfield idx, 3)) (lk : q_lkF y.cls idx ci j) (hs : M.2.2.2[k]? = some (.inl ci)) {v : Value} (hv : q_fv (q_kG K) M k ci j = q_cv (q_kG K) v) (kk : q_W K nL Q ce sl M (pc + 3) L (v :: st)) : q_W K nL Q ce sl M pc L (.ref k :: st) := by
  obtain ⟨p, l, e, R, s, m, args, below, meth, c, G⟩ := K
  obtain ⟨hx, hb, hr, hml, hown, hlo, hnm, hT, -⟩ := C
  obtain ⟨r, hc, hcl, hj, hdecl, hl⟩ := lk
  obtain ⟨h1, h2, h3⟩ := hcl r hc
  intro H locs ls hM hS hl0
  have hk : q_NS ≤ k := q_dyn hM hs hc
  have hP : va_P G.2.2.1 q_cl [(q_ad G k, .inr (ci, q_fs G M k ci))] H := fun i q hq => by
    cases i with
    | zero => cases hq; exact hM.2.2 k _ hk hs (by simp [q_jk])
    | succ i => cases hq
  have hv' : (q_fs G M k ci)[j]? = some (q_cv G v) := by rw [q_fs_get (by rw [q_nf_of hc]; exact hj)]; exact congrArg some hv
  have hsame : ∀ x, s.fieldFound? (r.2.1 j).1 (r.2.1 j).2.1 (r.2.1 j).2.2.1 = some x → s.fieldFound? r.1 (r.2.1 j).2.1 (r.2.1 j).2.2.1 = some x := fun x hx => by rw [hdecl] at hx; exact hx
  rcases hl with hl | ⟨host, hl⟩
  · exact va_get hx hb (q_hts hT args) h1 hown hT.2.2 hP 0 rfl hc j hj (q_hts hT args _ hl) hsame hv' hd (kk H locs ls hM hS hl0)
  · exact va_getN hx hb (q_hts hT args) h1 hown hT.2.2 hP 0 rfl hc j hj (q_nwf hT args hl) hsame hv' hd (kk H locs ls hM hS hl0)
theorem q_getI {β : Type} {res : β} {k ci j idx : Nat} {f : Int32 → Option β} (C : q_C K y cc nL rt d mc ms) (hd : decode cc pc = .ok (.getfield idx, 3)) (lk : q_lkF y.cls idx ci j) (hkd : q_kd (q_ty ci j) = 0) (h : q_gI M k ci j f = some res) (kk : f (M.1 k j) = some res → q_W K nL Q ce sl M (pc + 3) L (.int (M.1 k j) :: st)) : q_W K nL Q ce sl M pc L (.ref k :: st) := by
  unfold q_gI at h
  split at h
  · rename_i hs
    exact q_get0 C hd lk hs (by unfold q_fv; rw [hkd]; rfl) (kk h)
  · cases h
theorem q_getL {β : Type} {res : β} {k ci j idx : Nat} {f : Int64 → Option β} (C : q_C K y cc nL rt d mc ms) (hd : decode cc pc = .ok (.getfield idx, 3)) (lk : q_lkF y.cls idx ci j) (hkd : q_kd (q_ty ci j) = 1) (h : q_gL M k ci j f = some res) (kk : f (M.2.1 k j) = some res → q_W K nL Q ce sl M (pc + 3) L (.long (M.2.1 k j) :: st)) : q_W K nL Q ce sl M pc L (.ref k :: st) := by
  unfold q_gL at h
  split at h
  · rename_i hs
    exact q_get0 C hd lk hs (by unfold q_fv; rw [hkd]; rfl) (kk h)
  · cases h
theorem q_getR {β : Type} {res : β} {k ci j idx : Nat} {f : Nat → Option β} (C : q_C K y cc nL rt d mc ms) (hd : decode cc pc = .ok (.getfield idx, 3)) (lk : q_lkF y.cls idx ci j) (hkd : q_kd (q_ty ci j) = 2) (h : q_gR M k ci j f = some res) (kk : f (M.2.2.1 k j) = some res → q_W K nL Q ce sl M (pc + 3) L (q_rc (M.2.2.1 k j) :: st)) : q_W K nL Q ce sl M pc L (.ref k :: st) := by
  unfold q_gR at h
  split at h
  · rename_i hs
    exact q_get0 C hd lk hs (by unfold q_fv; rw [hkd]; rfl) (kk h)
  · cases h
/-- the same, where it must not be null -/
theorem q_getN {β : Type} {res : β} {k ci j idx : Nat} {f : Nat → Option β} (C : q_C K y cc nL rt d mc ms) (hd : decode cc pc = .ok (.getfield idx, 3)) (lk : q_lkF y.cls idx ci j) (hkd : q_kd (q_ty ci j) = 2) (h : q_gR M k ci j (fun c => q_nn c f) = some res) (kk : ∀ r, f r = some res → q_W K nL Q ce sl M (pc + 3) L (.ref r :: st)) : q_W K nL Q ce sl M pc L (.ref k :: st) :=
  q_getR C hd lk hkd h (fun h1 => q_nnW (P := fun c => q_W K nL Q ce sl M (pc + 3) L (q_rc c :: st)) h1 kk)
/-- a field is written: not a final one, or a constructor's own -/
theorem q_put0 {k ci j idx : Nat} {v : Value} {M' : q_Mem} (C : q_C K y cc nL rt d mc ms) (hd : decode cc pc = .ok (.putfield idx, 3)) (lk : q_lkF y.cls idx ci j) (hf : ∀ r, q_cl[ci]? = some r → (r.2.1 j).2.2.2 = false ∨ (y.name = "<init>" ∧ (r.2.1 j).1 = y.cls ∧ Cond.fieldLink y.cls idx r.1 (r.2.1 j).2.1 (r.2.1 j).2.2.1 ∈ q_gw)) (hs : M.2.2.2[k]? = some (.inl ci)) (hsh : M'.2.2.2 = M.2.2.2) (ho : ∀ a, a ≠ k → M'.1 a = M.1 a ∧ M'.2.1 a = M.2.1 a ∧ M'.2.2.1 a = M.2.2.1 a) (hn : narrow (q_ty ci j) (q_cv (q_kG K) v) = q_cv (q_kG K) v) (hfit : fits (q_ty ci j) (q_cv (q_kG K) v) = true) (hv : q_fv (q_kG K) M' k ci j = q_cv (q_kG K) v) (hoj : ∀ i, i ≠ j → q_fv (q_kG K) M' k ci i = q_fv (q_kG K) M k ci i) (kk : q_W K nL Q ce sl M' (pc + 3) L st) : q_W K nL Q ce sl M pc L (v :: .ref k :: st) := by
  obtain ⟨p, l, e, R, s, m, args, below, meth, c, G⟩ := K
  obtain ⟨hx, hb, hr, hml, hown, hlo, hnm, hT, hG, -⟩ := C
  obtain ⟨r, hc, hcl, hj, hdecl, hl⟩ := lk
  obtain ⟨h1, h2, h3⟩ := hcl r hc
  intro H locs ls hM hS hl0
  have hk : q_NS ≤ k := q_dyn hM hs hc
  have hat := hM.2.2 k _ hk hs (by simp [q_jk])
  have hP : va_P G.2.2.1 q_cl [(q_ad G k, .inr (ci, q_fs G M k ci))] H := fun i q hq => by
    cases i with
    | zero => cases hq; exact hat
    | succ i => cases hq
  have hap := va_apart (own := y.cls) (q_hts hT args) h1 (q_ty ci) h2 h3 hT.2.2 hc
  obtain ⟨r', hr', cell, q1, q2, q3, q4⟩ := hat
  have hrr : r' = r := Option.some.inj (hr'.symm.trans hc)
  subst hrr
  obtain ⟨hSl, hfc, kC, hkC, hkind⟩ := hT.2.2.1 ci _ hc
  obtain ⟨cf, kf, fi, f, hi, hsl⟩ := hSl j hj
  have hst := (u_facts hfc hkC (u_lays (q_hts hT args) h1 hj) hi).1
  have hsame : s.fieldFound? r'.1 (r'.2.1 j).2.1 (r'.2.1 j).2.2.1 = some (cf, kf, fi, f) := by rw [← hdecl]; exact hi
  have hA : q_A G (q_ad G k) := by
    show G.1 ≤ q_ad G k
    rw [q_ad_dyn hk]
    omega
  have hlt : f.slot < cell.slots.size := by rw [hsl]; exact k2_hasslot (q4 j hj)
  have fin : ∀ H' : Heap, H'[q_ad G k]? = some (cell.setSlot f.slot (q_cv G v)) → H'.size = H.size → (∀ q, q ≠ q_ad G k → H'[q]? = H[q]?) → W p l e R s m args below meth c H' (locs ++ [⟨q_ad G k, f.slot⟩]) ce sl Q (F0 m (pc + 3) ls (st.map (q_cv G))) := by
    intro H' e1 e2 e3
    rw [hsl] at e1
    refine kk H' _ ls (q_Sim_set hM hk hs hsh ho ?_ e2 e3) (hS.put e2 e3 hA) hl0
    refine ⟨_, hc, t_OB.to (V := updV (vp_V (q_fs G M k ci)) j (q_cv G v)) ⟨_, e1, q2, q3, t_set q4 hap hj (q_cv G v)⟩ (fun i hi' => ?_)⟩
    rw [vp_updV_set (by rw [q_fs_len, q_nf_of hc]; exact hj)]
    exact q_fs_set hv hoj i (by rw [q_nf_of hc]; exact hi')
  have hlay := q_hts hT args _ (h1 _ (u_in_lay hj))
  unfold u_lay at hlay
  by_cases hfin : (r'.2.1 j).2.2.2 = true
  · rcases hf r' hc with hf' | ⟨hin, hd2, hfl⟩
    · rw [hf'] at hfin; cases hfin
    · rw [if_pos hfin] at hlay
      have hcf : m.cls = cf := by
        obtain ⟨_, _, c', _, _, _, -, -, hf', -, -, -, hown2, -⟩ := Cond.laysFinal_spec hlay
        have e1 : c' = cf := by have := hi.symm.trans hf'; simp at this; exact this.1.symm
        rw [hd2] at hown2
        rw [← e1]; exact Option.some.inj (hown.symm.trans hown2)
      have h6 := u_fits hfc hkC hkind (Or.inr hlay) hi (h2 j hj) hn hfit
      exact W.putFinK hx hb hown (q_hts hT args _ hfl) hsame hst hcf (hnm.trans hin) (by rw [q2]; exact h6) q1 q3 hlt rfl rfl hd fin
  · rw [if_neg hfin] at hlay
    have h6 := u_store hfc hkC hkind hlay hi (h2 j hj) hn hfit
    rcases hl with hl | ⟨host, hl⟩
    · exact W.putK hx hb (f := f) ⟨hown, q_hts hT args _ hl, ⟨_, _, _, hsame⟩, hst⟩ (by rw [q2]; exact h6) q1 q3 hlt rfl rfl hd fin
    · exact va_WputK hx hb (f := f) hown (q_nwf hT args hl) hsame hst (by rw [q2]; exact h6) q1 q3 hlt rfl rfl hd fin
theorem q_putI {β : Type} {res : β} {k ci j idx : Nat} {v : Int32} {f : q_Mem → Option β} (C : q_C K y cc nL rt d mc ms) (hd : decode cc pc = .ok (.putfield idx, 3)) (lk : q_lkF y.cls idx ci j) (hf : ∀ r, q_cl[ci]? = some r → (r.2.1 j).2.2.2 = false) (hty : q_ty ci j = .int) (h : q_pI M k ci j v f = some res) (kk : f (q_sI M k j v) = some res → q_W K nL Q ce sl (q_sI M k j v) (pc + 3) L st) : q_W K nL Q ce sl M pc L (.int v :: .ref k :: st) := by
  unfold q_pI at h
  split at h
  · rename_i hs
    refine q_put0 (M' := q_sI M k j v) C hd lk (fun r hr => Or.inl (hf r hr)) hs.1 rfl q_sI_o (by rw [hty]; rfl) (by rw [hty]; rfl) ?_ ?_ (kk h)
    · unfold q_fv q_sI q_u2
      rw [hty]
      simp [q_kd, q_cv, va_up]
    · intro i hi
      unfold q_fv q_sI q_u2
      simp [va_up, hi]
  · cases h
theorem q_putZ {β : Type} {res : β} {k ci j idx : Nat} {v : Int32} {f : q_Mem → Option β} (C : q_C K y cc nL rt d mc ms) (hd : decode cc pc = .ok (.putfield idx, 3)) (lk : q_lkF y.cls idx ci j) (hf : ∀ r, q_cl[ci]? = some r → (r.2.1 j).2.2.2 = false) (hty : q_ty ci j = .boolean) (h : q_pZ M k ci j v f = some res) (kk : f (q_sI M k j v) = some res → q_W K nL Q ce sl (q_sI M k j v) (pc + 3) L st) : q_W K nL Q ce sl M pc L (.int v :: .ref k :: st) := by
  unfold q_pZ at h
  split at h
  · rename_i hs
    refine q_put0 (M' := q_sI M k j v) C hd lk (fun r hr => Or.inl (hf r hr)) hs.1.1 rfl q_sI_o (by rw [hty]; rcases hs.2 with e | e <;> subst e <;> rfl) (by rw [hty]; rcases hs.2 with e | e <;> subst e <;> rfl) ?_ ?_ (kk h)
    · unfold q_fv q_sI q_u2
      rw [hty]
      simp [q_kd, q_cv, va_up]
    · intro i hi
      unfold q_fv q_sI q_u2
      simp [va_up, hi]
  · cases h
theorem q_putL {β : Type} {res : β} {k ci j idx : Nat} {v : Int64} {f : q_Mem → Option β} (C : q_C K y cc nL rt d mc ms) (hd : decode cc pc = .ok (.putfield idx, 3)) (lk : q_lkF y.cls idx ci j) (hf : ∀ r, q_cl[ci]? = some r → (r.2.1 j).2.2.2 = false) (hty : q_ty ci j = .long) (h : q_pL M k ci j v f = some res) (kk : f (q_sL M k j v) = some res → q_W K nL Q ce sl (q_sL M k j v) (pc + 3) L st) : q_W K nL Q ce sl M pc L (.long v :: .ref k :: st) := by
  unfold q_pL at h
  split at h
  · rename_i hs
    refine q_put0 (M' := q_sL M k j v) C hd lk (fun r hr => Or.inl (hf r hr)) hs.1 rfl q_sL_o (by rw [hty]; rfl) (by rw [hty]; rfl) ?_ ?_ (kk h)
    · unfold q_fv q_sL q_u2
      rw [hty]
      simp [q_kd, q_cv, va_up]
    · intro i hi
      unfold q_fv q_sL q_u2
      simp [va_up, hi]
  · cases h
/-- a reference into a field: of an object or an array type -/
theorem q_putR {β : Type} {res : β} {k ci j idx : Nat} {v : Nat} {f : q_Mem → Option β} (C : q_C K y cc nL rt d mc ms) (hd : decode cc pc = .ok (.putfield idx, 3)) (lk : q_lkF y.cls idx ci j) (hf : ∀ r, q_cl[ci]? = some r → (r.2.1 j).2.2.2 = false ∨ (y.name = "<init>" ∧ (r.2.1 j).1 = y.cls ∧ Cond.fieldLink y.cls idx r.1 (r.2.1 j).2.1 (r.2.1 j).2.2.1 ∈ q_gw)) (hty : (∃ n, q_ty ci j = .object n) ∨ ∃ t, q_ty ci j = .array t) (h : q_pR M k ci j v f = some res) (kk : f (q_sR M k j v) = some res → q_W K nL Q ce sl (q_sR M k j v) (pc + 3) L st) : q_W K nL Q ce sl M pc L (q_rc v :: .ref k :: st) := by
  unfold q_pR at h
  split at h
  · rename_i hs
    refine q_put0 (M' := q_sR M k j v) C hd lk hf hs.1 rfl q_sR_o ?_ ?_ ?_ ?_ (kk h)
    · rcases hty with ⟨n, e⟩ | ⟨t, e⟩ <;> rw [e] <;> cases v <;> rfl
    · rcases hty with ⟨n, e⟩ | ⟨t, e⟩ <;> rw [e] <;> cases v <;> rfl
    · unfold q_fv q_sR q_u2
      rcases hty with ⟨n, e⟩ | ⟨t, e⟩ <;> rw [e] <;> simp [q_kd, va_up]
    · intro i hi
      unfold q_fv q_sR q_u2
      simp [va_up, hi]
  · cases h
end QM
