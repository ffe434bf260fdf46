/-! statics at a later state -/
theorem q_ST_go {G : q_G} {s U : State} (hW : s.WarmedH U.vm) (hq : ∀ a : Nat, a < s.heap.size → ¬ q_A G a → U.heap[a]? = s.heap[a]?) (h : q_ST G s) : q_ST G U :=
  ⟨fun k hk => va_T.moved hW.alike ((h.1 k hk).kept hq), fun i hi => ⟨va_O.moved hW.alike ((h.2.1 i hi).1.kept hq), va_OF.moved hW.alike ((h.2.1 i hi).2.1.kept hq), va_OF.moved hW.alike ((h.2.1 i hi).2.2.1.kept hq), va_T.moved hW.alike ((h.2.1 i hi).2.2.2.kept hq)⟩,
    fun z hz => va_Z.moved hW.alike ((h.2.2.1 z hz).kept hq), fun i z hz => vk_R.warm hW (h.2.2.2.1 i z hz), ⟨va_AO.moved hW.alike h.2.2.2.2.1.1, va_AO.moved hW.alike h.2.2.2.2.1.2.1, va_AO.moved hW.alike h.2.2.2.2.1.2.2⟩, h.2.2.2.2.2.1.elim (fun z => Or.inl (va_Z.moved hW.alike (z.kept hq))) (fun z => Or.inr (va_Z.moved hW.alike (z.kept hq))), va_T.moved hW.alike (h.2.2.2.2.2.2.kept hq)⟩
/-! arrays -/
theorem q_stc_arr {G : q_G} {k t n : Nat} (h : (q_stc G k).1 = .inr (t, n)) (hk : k < 36) (ht99 : t ≠ 99) : (k < 4 ∧ t = 0 ∧ n = (q_nums.getD k []).length ∧ (q_stc G k).2.1 = fun j => (q_nums.getD k []).getD j 0) ∨ (∃ i, i < 15 ∧ k = 5 + 2 * i ∧ t = 1 ∧ n = (q_txts.getD i []).length ∧ (q_stc G k).2.1 = fun j => (q_txts.getD i []).getD j 0) ∨ (k = 35 ∧ t = 0 ∧ n = G.2.1 99 ∧ (q_stc G k).2.1 = fun j => Int32.ofNat (G.2.1 (1000 + j))) := by
  unfold q_stc at h ⊢
  split at h
  · rename_i h4
    cases h
    exact Or.inl ⟨h4, rfl, rfl, by rw [if_pos h4]⟩
  · rename_i h4
    split at h
    · cases h
      exact absurd rfl ht99
    · rename_i h34
      split at h
      · rename_i h35
        cases h
        exact Or.inr (Or.inr ⟨h35, rfl, rfl, by rw [if_neg h4, if_neg h34, if_pos h35]⟩)
      · rename_i h35
        split at h
        · cases h
        · rename_i h2
          cases h
          refine Or.inr (Or.inl ⟨(k - 5) / 2, by omega, by omega, rfl, rfl, ?_⟩)
          rw [if_neg h4, if_neg h34, if_neg h35, if_neg h2]
theorem q_ln_pos {M : q_Mem} {t a i : Nat} (h : i < q_ln M t a) : ∃ n, M.2.2.2[a]? = some (.inr (t, n)) ∧ q_ln M t a = n := by
  unfold q_ln at h ⊢
  split at h
  · rename_i u n e
    split at h
    · rename_i e2
      subst e2
      exact ⟨n, e, by rw [if_pos rfl]⟩
    · omega
  · omega
section QA
variable {K : q_K} {y : MethodName} {cc : ByteArray} {nL : Nat} {rt : Option FieldType} {d mc ms : Nat} {Q : State → Prop} {ce sl : Nat} {M : q_Mem} {pc : Nat} {L : List (Option Value)} {st : List Value}
theorem q_arrP {G : q_G} {H : Heap} {a t n : Nat} (hM : q_Sim G M H) (ha : q_NS ≤ a) (hs : M.2.2.2[a]? = some (.inr (t, n))) (ht : t ≠ 99 := by decide) : va_P G.2.2.1 q_cl [(q_ad G a, .inl (G.2.2.2 t, n, q_ct G M a t))] H := fun i q hq => by
  cases i with
  | zero => cases hq; exact hM.2.2 a _ ha hs (fun e => ht (by cases e; rfl))
  | succ i => cases hq
theorem q_iald {β : Type} {res : β} {a : Nat} {i : Int32} {f : Int32 → Option β} (C : q_C K y cc nL rt d mc ms) (hd : decode cc pc = .ok (.iaload, 1)) (h : q_lI M 0 a i f = some res) (kk : f (M.1 a i.toNatClampNeg) = some res → q_W K nL Q ce sl M (pc + 1) L (.int (M.1 a i.toNatClampNeg) :: st)) : q_W K nL Q ce sl M pc L (.int i :: .ref a :: st) := by
  obtain ⟨p, l, e, R, s, m, args, below, meth, c, G⟩ := K
  obtain ⟨hx, hb, hr, hml, hown, hlo, hnm, hT, hG, hST, -⟩ := C
  unfold q_lI at h
  split at h
  · cases h
  · rename_i hin
    have hlt : i.toNatClampNeg < q_ln M 0 a := Nat.not_le.mp fun q => hin (Or.inr q)
    obtain ⟨n, hs, hn⟩ := q_ln_pos hlt
    intro H locs ls hM hS hl0
    rw [hn] at hin
    rcases Nat.lt_or_ge a q_NS with ha | ha
    · obtain ⟨z1, z2, -⟩ := hM.1 a ha
      rw [hs] at z1
      rcases q_stc_arr (Option.some.inj z1).symm ha (by omega) with ⟨g1, -, g3, g4⟩ | ⟨j, -, -, g3, -⟩ | ⟨g1, -, g3, g4⟩
      · have hv : q_ad G a = G.2.1 a := by unfold q_ad; rw [if_pos ha]
        show W p l e R s m args below meth c H locs ce sl Q (F0 m pc ls (.int i :: .ref (q_ad G a) :: st.map (q_cv G)))
        rw [hv]
        refine va_ti hx hb (hST.1 a g1) hS (by rw [← g3]; exact hin) rfl hd ?_
        have := kk h H locs ls hM hS hl0
        rw [z2, g4] at this
        exact this
      · cases g3
      · have hv : q_ad G a = G.2.1 a := by unfold q_ad; rw [if_pos ha]
        show W p l e R s m args below meth c H locs ce sl Q (F0 m pc ls (.int i :: .ref (q_ad G a) :: st.map (q_cv G)))
        rw [hv]
        subst g1
        refine va_ti hx hb hST.2.2.2.2.2.2 hS (by rw [← g3]; exact hin) rfl hd ?_
        have := kk h H locs ls hM hS hl0
        rw [z2, g4] at this
        exact this
    · exact va_iald hx hb hT.2.2 (q_arrP hM ha hs) 0 0 rfl rfl hin hd (kk h H locs ls hM hS hl0)
theorem q_bald {β : Type} {res : β} {a : Nat} {i : Int32} {f : Int32 → Option β} (C : q_C K y cc nL rt d mc ms) (hd : decode cc pc = .ok (.baload, 1)) (h : q_lI M 1 a i f = some res) (kk : f (M.1 a i.toNatClampNeg) = some res → q_W K nL Q ce sl M (pc + 1) L (.int (M.1 a i.toNatClampNeg) :: st)) : q_W K nL Q ce sl M pc L (.int i :: .ref a :: st) := by
  obtain ⟨p, l, e, R, s, m, args, below, meth, c, G⟩ := K
  obtain ⟨hx, hb, hr, hml, hown, hlo, hnm, hT, hG, hST, -⟩ := C
  unfold q_lI at h
  split at h
  · cases h
  · rename_i hin
    have hlt : i.toNatClampNeg < q_ln M 1 a := Nat.not_le.mp fun q => hin (Or.inr q)
    obtain ⟨n, hs, hn⟩ := q_ln_pos hlt
    intro H locs ls hM hS hl0
    rw [hn] at hin
    rcases Nat.lt_or_ge a q_NS with ha | ha
    · obtain ⟨z1, z2, -⟩ := hM.1 a ha
      rw [hs] at z1
      rcases q_stc_arr (Option.some.inj z1).symm ha (by omega) with ⟨g1, g2, -⟩ | ⟨j, g1, g2, -, g3, g4⟩ | ⟨-, g2, -⟩
      · cases g2
      · have hv : q_ad G a = G.2.1 a := by unfold q_ad; rw [if_pos ha]
        show W p l e R s m args below meth c H locs ce sl Q (F0 m pc ls (.int i :: .ref (q_ad G a) :: st.map (q_cv G)))
        rw [hv]
        subst g2
        refine va_tb hx hb (hST.2.1 j g1).2.2.2 hS (by rw [← g3]; exact hin) rfl hd ?_
        have := kk h H locs ls hM hS hl0
        rw [z2, g4] at this
        exact this
      · cases g2
    · exact va_bald hx hb hT.2.2 (q_arrP hM ha hs) 0 1 rfl rfl hin hd (kk h H locs ls hM hS hl0)
theorem q_lald {β : Type} {res : β} {a : Nat} {i : Int32} {f : Int64 → Option β} (C : q_C K y cc nL rt d mc ms) (hd : decode cc pc = .ok (.laload, 1)) (h : q_lL M a i f = some res) (kk : f (M.2.1 a i.toNatClampNeg) = some res → q_W K nL Q ce sl M (pc + 1) L (.long (M.2.1 a i.toNatClampNeg) :: st)) : q_W K nL Q ce sl M pc L (.int i :: .ref a :: st) := by
  obtain ⟨p, l, e, R, s, m, args, below, meth, c, G⟩ := K
  obtain ⟨hx, hb, hr, hml, hown, hlo, hnm, hT, hG, hST, -⟩ := C
  unfold q_lL at h
  split at h
  · cases h
  · rename_i hin
    have hlt : i.toNatClampNeg < q_ln M 2 a := Nat.not_le.mp fun q => hin (Or.inr q)
    obtain ⟨n, hs, hn⟩ := q_ln_pos hlt
    intro H locs ls hM hS hl0
    rw [hn] at hin
    rcases Nat.lt_or_ge a q_NS with ha | ha
    · obtain ⟨z1, z2, -⟩ := hM.1 a ha
      rw [hs] at z1
      rcases q_stc_arr (Option.some.inj z1).symm ha (by omega) with ⟨g1, g2, -⟩ | ⟨j, g1, g2, g3, -⟩ | ⟨-, g2, -⟩
      · cases g2
      · cases g3
      · cases g2
    · exact va_lald hx hb hT.2.2 (q_arrP hM ha hs) 0 2 rfl rfl hin hd (kk h H locs ls hM hS hl0)
theorem q_aald {β : Type} {res : β} {t a : Nat} {i : Int32} {f : Nat → Option β} (C : q_C K y cc nL rt d mc ms) (hd : decode cc pc = .ok (.aaload, 1)) (ht : t = 3 ∨ t = 4 ∨ t = 5) (h : q_lR M t a i f = some res) (kk : f (M.2.2.1 a i.toNatClampNeg) = some res → q_W K nL Q ce sl M (pc + 1) L (q_rc (M.2.2.1 a i.toNatClampNeg) :: st)) : q_W K nL Q ce sl M pc L (.int i :: .ref a :: st) := by
  obtain ⟨p, l, e, R, s, m, args, below, meth, c, G⟩ := K
  obtain ⟨hx, hb, hr, hml, hown, hlo, hnm, hT, hG, hST, -⟩ := C
  unfold q_lR at h
  split at h
  · cases h
  · rename_i hin
    have hlt : i.toNatClampNeg < q_ln M t a := Nat.not_le.mp fun q => hin (Or.inr q)
    obtain ⟨n, hs, hn⟩ := q_ln_pos hlt
    intro H locs ls hM hS hl0
    rw [hn] at hin
    rcases Nat.lt_or_ge a q_NS with ha | ha
    · obtain ⟨z1, z2, -⟩ := hM.1 a ha
      rw [hs] at z1
      rcases q_stc_arr (Option.some.inj z1).symm ha (by omega) with ⟨g1, g2, -⟩ | ⟨j, g1, g2, g3, -⟩ | ⟨-, g2, -⟩ <;> omega
    · have hz := kk h H locs ls hM hS hl0
      have e0 : va_rf (q_oa G (M.2.2.1 a i.toNatClampNeg)) = q_cv G (q_rc (M.2.2.1 a i.toNatClampNeg)) := by cases M.2.2.1 a i.toNatClampNeg <;> rfl
      have hP := q_arrP hM ha hs (by omega)
      rcases ht with e1 | e1 | e1 <;> subst e1
      · exact va_aldq (f := fun j => q_oa G (M.2.2.1 a j)) hx hb hT.2.2 hP 0 3 rfl rfl hin hd (by rw [e0]; exact hz)
      · exact va_aldq (f := fun j => q_oa G (M.2.2.1 a j)) hx hb hT.2.2 hP 0 4 rfl rfl hin hd (by rw [e0]; exact hz)
      · exact va_aldq (f := fun j => q_oa G (M.2.2.1 a j)) hx hb hT.2.2 hP 0 5 rfl rfl hin hd (by rw [e0]; exact hz)
end QA
