/-! the start: what the claim gives is what the walks want -/
def ys_fl : List Cond := flatC (Jvm.Cond.and given_1 narrow_1)
def ys_nm (k : Nat) : Term := .static "GongHouse" (["RULE_BOUNDS", "DISH_BOUNDS", "GUEST_BOUNDS", "STEP_DIGITS"].getD k "") "[I"
def ys_nb (k : Nat) : Nat := [5, 22, 34, 49].getD k 0
set_option maxRecDepth 100000 in
theorem ys_nA : ∀ k : Nat, k < 4 → ys_fl[ys_nb k]? = some (.arrayOf (ys_nm k) .int) ∧ ys_fl[ys_nb k + 1]? = some (.eq (.length (ys_nm k)) (.int (Int32.ofNat (q_nums.getD k []).length))) ∧ ∀ j : Nat, j < (q_nums.getD k []).length → ys_fl[ys_nb k + 2 + j]? = some (.eq (.elem (ys_nm k) (.int (Int32.ofNat j))) (.int ((q_nums.getD k []).getD j 0))) := by decide +kernel
theorem ys_nl : ∀ k : Nat, k < 4 → (q_nums.getD k []).length < 2 ^ 31 := by decide +kernel
def ys_k (i : Nat) : String × Nat × String := q_ks.getD i ("", 0, "")
def ys_tm (i : Nat) : Term := .string (ys_k i).1 (ys_k i).2.1
def ys_tb (i : Nat) : Nat := [116, 123, 131, 141, 187, 175, 164, 150, 201, 319, 339, 360, 383, 281, 297].getD i 0
def ys_ti (i : Nat) : Nat := [428, 531, 534, 550, 572, 571, 570, 564, 598, 1400, 1447, 1448, 1518, 1197, 1198].getD i 0
def ys_va (i : Nat) : Term := .field (ys_tm i) "java/lang/String" "value" "[B"
set_option maxRecDepth 100000 in
theorem ys_tA : ∀ i : Nat, i < 15 → ys_fl[ys_tb i]? = some (.exactly (ys_tm i) "java/lang/String") ∧ ys_fl[ys_tb i + 1]? = some (.eq (.field (ys_tm i) "java/lang/String" "coder" "B") (.int 0)) ∧ ys_fl[ys_tb i + 2]? = some (.arrayOf (ys_va i) .byte) ∧ ys_fl[ys_tb i + 3]? = some (.eq (.length (ys_va i)) (.int (Int32.ofNat (q_txts.getD i []).length))) ∧ ∀ j : Nat, j < (q_txts.getD i []).length → ys_fl[ys_tb i + 4 + j]? = some (.eq (.elem (ys_va i) (.int (Int32.ofNat j))) (.int ((q_txts.getD i []).getD j 0))) := by decide +kernel
theorem ys_tl : ∀ i : Nat, i < 15 → (q_txts.getD i []).length < 2 ^ 31 := by decide +kernel
set_option maxRecDepth 100000 in
theorem ys_tR : ∀ i : Nat, i < 15 → tables_1[ys_ti i]? = some (.stringRef (ys_k i).1 (ys_k i).2.1 (ys_k i).2.2) := by decide +kernel
set_option maxRecDepth 100000 in
theorem ys_xA : ys_fl[218]? = some (.exactly (.string "GongHouse" 175) "java/lang/String") ∧ ys_fl[244]? = some (.exactly (.string "GongHouse" 186) "java/lang/String") ∧ ys_fl[16]? = some (.eq (.static "java/lang/String" "COMPACT_STRINGS" "Z") (.int 1)) ∧ ys_fl[17]? = some (.isRef (.static "jdk/internal/util/Preconditions" "SIOOBE_FORMATTER" "Ljava/util/function/BiFunction;")) ∧ ys_fl[56]? = some (.isRef (.static Bundle.tN "UNASSIGNED_STACK" Bundle.steD)) ∧ ys_fl[57]? = some (.isRef (.static Bundle.tN "SUPPRESSED_SENTINEL" Bundle.listD)) := by decide +kernel
set_option maxRecDepth 100000 in
theorem ys_xT : tables_1[1164]? = some (.stringRef "GongHouse" 175 "no such guest") ∧ tables_1[1190]? = some (.stringRef "GongHouse" 186 "nothing such of a guest") ∧ tables_1[441]? = some (.laysStatic "java/lang/String" "COMPACT_STRINGS" "Z") ∧ tables_1[494]? = some (.laysStatic "jdk/internal/util/Preconditions" "SIOOBE_FORMATTER" "Ljava/util/function/BiFunction;") ∧ tables_1[1152]? = some (.laysStatic Bundle.tN "UNASSIGNED_STACK" Bundle.steD) ∧ tables_1[1154]? = some (.laysStatic Bundle.tN "SUPPRESSED_SENTINEL" Bundle.listD) ∧ tables_1[1]? = some (.initialized "GongHouse") ∧ tables_1[13]? = some (.initialized "java/lang/String") ∧ tables_1[17]? = some (.initialized "jdk/internal/util/Preconditions") ∧ tables_1[22]? = some (.initialized Bundle.tN) := by decide +kernel
set_option maxRecDepth 100000 in
theorem ys_xD : tables_1[1129]? = some (.declares (Bundle.initS q_rte)) ∧ tables_1[1131]? = some (.declares (Bundle.initS "java/lang/Exception")) ∧ tables_1[1133]? = some (.declares (Bundle.initS Bundle.tN)) := by decide +kernel
set_option maxRecDepth 100000 in
theorem ys_xN : ∀ k : Nat, k < 4 → tables_1[[416, 533, 536, 601].getD k 0]? = some (.laysStatic "GongHouse" (["RULE_BOUNDS", "DISH_BOUNDS", "GUEST_BOUNDS", "STEP_DIGITS"].getD k "") "[I") := by decide +kernel
set_option maxRecDepth 100000 in
theorem ys_xA2 : tables_1[121]? = some (.arrayOver (.object RX4)) ∧ tables_1[123]? = some (.arrayOver (.object RX10)) ∧ tables_1[250]? = some (.arrayOver (.object RX8)) ∧ tables_1[62]? = some (.arrayClass .byte) ∧ tables_1[103]? = some (.arrayClass .int) ∧ tables_1[1841]? = some (.arrayClass .long) := by decide +kernel
def ys_cn (c : Nat) : String := [RX0, RX1, RX2, RX3, RX4, RX5, RX6, RX7, RX8, RX9, RX10, RX11, RX12, RXe].getD c ""
set_option maxRecDepth 100000 in
theorem ys_ci : ∀ c : Nat, c < 14 → tables_1[[230, 171, 243, 64, 647, 105, 140, 294, 125, 36, 313, 28, 1192, 1126].getD c 0]? = some (.instantiable (ys_cn c) ([2, 12, 12, 7, 2, 3, 7, 4, 1, 4, 2, 20, 50, 6].getD c 0)) := by decide +kernel
theorem ys_cr : ∀ (c : Nat) (r : vw_C), q_cl[c]? = some r → c < 14 ∧ r.1 = ys_cn c ∧ ∀ w ∈ u_ws r.1 r.2.1 r.2.2, w ∈ q_gw := by
  intro c r h
  have hc : c < 14 := (List.getElem?_eq_some_iff.mp h).1
  refine ⟨hc, ?_, ?_⟩
  · rcases (show c = 0 ∨ c = 1 ∨ c = 2 ∨ c = 3 ∨ c = 4 ∨ c = 5 ∨ c = 6 ∨ c = 7 ∨ c = 8 ∨ c = 9 ∨ c = 10 ∨ c = 11 ∨ c = 12 ∨ c = 13 by omega) with rfl | rfl | rfl | rfl | rfl | rfl | rfl | rfl | rfl | rfl | rfl | rfl | rfl | rfl <;> cases h <;> rfl
  · rcases (show c = 0 ∨ c = 1 ∨ c = 2 ∨ c = 3 ∨ c = 4 ∨ c = 5 ∨ c = 6 ∨ c = 7 ∨ c = 8 ∨ c = 9 ∨ c = 10 ∨ c = 11 ∨ c = 12 ∨ c = 13 by omega) with rfl | rfl | rfl | rfl | rfl | rfl | rfl | rfl | rfl | rfl | rfl | rfl | rfl | rfl
    · exact (clok_0 r h).1
    · exact (clok_1 r h).1
    · exact (clok_2 r h).1
    · exact (clok_3 r h).1
    · exact (clok_4 r h).1
    · exact (clok_5 r h).1
    · exact (clok_6 r h).1
    · exact (clok_7 r h).1
    · exact (clok_8 r h).1
    · exact (clok_9 r h).1
    · exact (clok_10 r h).1
    · exact (clok_11 r h).1
    · exact (clok_12 r h).1
    · cases h
      intro w hw
      cases hw
def ys_sa (tN : Nat → Nat) (z : Nat → Nat × Nat) (f b L x y : Nat) (xs : Nat → Int32) (k : Nat) : Nat := if k < 4 then tN k else if k = 34 then f else if k = 35 then b else if k = 99 then L else if k = 100 then x else if k = 101 then y else if 1000 ≤ k then (xs (k - 1000)).toBitVec.toNat else if k % 2 = 0 then (z ((k - 4) / 2)).1 else (z ((k - 5) / 2)).2
theorem ys_bv (x : Int32) : Int32.ofNat x.toBitVec.toNat = x := by
  apply Int32.toBitVec_inj.mp
  show BitVec.ofNat 32 x.toBitVec.toNat = x.toBitVec
  exact BitVec.ofNat_toNat _ _ |>.trans (by simp)
section YSA
variable {tN : Nat → Nat} {z : Nat → Nat × Nat} {f b L x y : Nat} {xs : Nat → Int32}
theorem ys_s4 (k : Nat) (h : k < 4) : ys_sa tN z f b L x y xs k = tN k := if_pos h
theorem ys_sK (i : Nat) (h : i < 15) : ys_sa tN z f b L x y xs (4 + 2 * i) = (z i).1 := by
  unfold ys_sa
  rw [if_neg (by omega), if_neg (by omega), if_neg (by omega), if_neg (by omega), if_neg (by omega), if_neg (by omega), if_neg (by omega), if_pos (by omega), show (4 + 2 * i - 4) / 2 = i by omega]
theorem ys_sV (i : Nat) (h : i < 15) : ys_sa tN z f b L x y xs (5 + 2 * i) = (z i).2 := by
  unfold ys_sa
  rw [if_neg (by omega), if_neg (by omega), if_neg (by omega), if_neg (by omega), if_neg (by omega), if_neg (by omega), if_neg (by omega), if_neg (by omega), show (5 + 2 * i - 5) / 2 = i by omega]
theorem ys_sX (j : Nat) : ys_sa tN z f b L x y xs (1000 + j) = (xs j).toBitVec.toNat := by
  unfold ys_sa
  rw [if_neg (by omega), if_neg (by omega), if_neg (by omega), if_neg (by omega), if_neg (by omega), if_neg (by omega), if_pos (by omega), show 1000 + j - 1000 = j by omega]
end YSA
section YSB
variable {s : State} {b : Nat} {A : Nat → Prop}
theorem ys_of (hts : ∀ w ∈ lw_tbl, w.before #[Value.ref b] s = true) {i : Nat} {w : Cond} (h : tables_1[i]? = some w) : w.before #[Value.ref b] s = true := hts w (List.mem_append_right _ (List.mem_of_getElem? h))
theorem ys_in (hgv : (Jvm.Cond.and given_1 narrow_1).before #[Value.ref b] s = true) {i : Nat} {w : Cond} (h : ys_fl[i]? = some w) : w.before #[Value.ref b] s = true := flat_of_before _ hgv w (List.mem_of_getElem? h)
theorem ys_num (hgv : (Jvm.Cond.and given_1 narrow_1).before #[Value.ref b] s = true) (hA : ∀ a : Nat, a < s.heap.size → ¬ A a) (k : Nat) : ∃ t : Nat, k < 4 → (ys_nm k).eval #[Value.ref b] s none [] s = some (.ref t) ∧ va_T .int t (q_nums.getD k []).length (fun j => .int ((q_nums.getD k []).getD j 0)) A s s.heap := by
  by_cases hk : k < 4
  · obtain ⟨h1, h2, h3⟩ := ys_nA k hk
    obtain ⟨t, ht⟩ := va_Tof (f := fun j => .int ((q_nums.getD k []).getD j 0)) (ys_nl k hk) (ys_in hgv h1) (va_eqt (ys_in hgv h2)) (fun j hj => va_eqt (ys_in hgv (h3 j hj))) hA
    exact ⟨t, fun _ => ht⟩
  · exact ⟨0, fun h => absurd h hk⟩
theorem ys_txt (hgv : (Jvm.Cond.and given_1 narrow_1).before #[Value.ref b] s = true) (hA : ∀ a : Nat, a < s.heap.size → ¬ A a) (i : Nat) : ∃ z : Nat × Nat, i < 15 → (ys_tm i).eval #[Value.ref b] s none [] s = some (.ref z.1) ∧ va_O "java/lang/String" z.1 A s s.heap ∧ va_OF "java/lang/String" "coder" "B" (.int 0) z.1 A s s.heap ∧ va_OF "java/lang/String" "value" "[B" (.ref z.2) z.1 A s s.heap ∧ va_T .byte z.2 (q_txts.getD i []).length (fun j => .int ((q_txts.getD i []).getD j 0)) A s s.heap := by
  by_cases hi : i < 15
  · obtain ⟨h1, h2, h3, h4, h5⟩ := ys_tA i hi
    have g1 := ys_in hgv h1
    obtain ⟨a, c, cell, k, q1, -⟩ := Cond.exactly_spec (args := #[Value.ref b]) (first := s) (o := none) (s := s) (idx := []) (t := ys_tm i) (cls := "java/lang/String") g1
    obtain ⟨t, ht, hT⟩ := va_Tof (f := fun j => .int ((q_txts.getD i []).getD j 0)) (A := A) (ys_tl i hi) (ys_in hgv h3) (va_eqt (ys_in hgv h4)) (fun j hj => va_eqt (ys_in hgv (h5 j hj))) hA
    exact ⟨(a, t), fun _ => ⟨q1, va_Oof g1 q1 hA, vk_OFof q1 (va_eqt (ys_in hgv h2)) hA, vk_OFof q1 ht hA, hT⟩⟩
  · exact ⟨(0, 0), fun h => absurd h hi⟩
theorem ys_cls (hts : ∀ w ∈ lw_tbl, w.before #[Value.ref b] s = true) (c : Nat) : ∃ q : ClassId × (Nat → Nat), ∀ r : vw_C, q_cl[c]? = some r → u_Kn s r.1 r.2.1 r.2.2 q.1 q.2 := by
  cases e : q_cl[c]? with
  | none => exact ⟨(0, fun _ => 0), fun r h => by cases h⟩
  | some r =>
    obtain ⟨h1, h2, h3⟩ := ys_cr c r e
    have hi := ys_of hts (ys_ci c h1)
    rw [← h2] at hi
    obtain ⟨cC, iS, hK⟩ := u_known (ws := q_gw) (fun w hw => hts w (List.mem_filter.mp hw).1) h3 hi
    exact ⟨(cC, iS), fun r' h => by cases h; exact hK⟩
theorem ys_arO {n : String} {args : Array Value} (h : (Cond.arrayOver (.object n)).before args s = true) : ∃ cA, ArrOfT s cA (.object n) ∧ va_RA s cA (.object n) := by
  obtain ⟨comp, c, k, h1, h2, h3, h4, h5⟩ := Cond.arrayOver_spec h
  exact ⟨c, fun n z => ⟨fun k h => (by cases h), k, h3, comp, h4⟩, k, comp, h3, h4, h1, h5⟩
theorem ys_arI {args : Array Value} (h : (Cond.arrayClass .int).before args s = true) : ∃ cA, ArrOfT s cA .int ∧ va_RA s cA .int := by
  obtain ⟨c, k, comp, h1, h2, h3⟩ := Cond.arrayClass_spec h
  exact ⟨c, fun n z => ⟨fun k h => (by cases h), k, h2, comp, h3⟩, h1⟩
theorem ys_arB {args : Array Value} (h : (Cond.arrayClass .byte).before args s = true) : ∃ cA, ArrOfT s cA .byte ∧ va_RA s cA .byte := by
  obtain ⟨c, k, comp, h1, h2, h3⟩ := Cond.arrayClass_spec h
  exact ⟨c, fun n z => ⟨fun k h => (by cases h), k, h2, comp, h3⟩, h1⟩
theorem ys_arL {args : Array Value} (h : (Cond.arrayClass .long).before args s = true) : ∃ cA, ArrOfT s cA .long ∧ va_RA s cA .long := by
  obtain ⟨c, k, comp, h1, h2, h3⟩ := Cond.arrayClass_spec h
  exact ⟨c, fun n z => ⟨fun k h => (by cases h), k, h2, comp, h3⟩, h1⟩
theorem ys_nwT {w : Cond} (h : q_isN w = true) : w.onTables = true := by
  cases w <;> first | rfl | (cases h)
theorem ys_start {L : Nat} {xs : Nat → Int32} (hts : ∀ w ∈ lw_tbl, w.before #[Value.ref b] s = true) (hX : va_X b L xs s s.heap) (hbl : b < s.heap.size) (hgv : (Jvm.Cond.and given_1 narrow_1).before #[Value.ref b] s = true) : ∃ G : q_G, G.1 = s.heap.size ∧ G.2.1 35 = b ∧ G.2.1 99 = L ∧ q_TB G s ∧ q_ST G s ∧ q_TX G s := by
  have hA : ∀ a : Nat, a < s.heap.size → ¬ (fun q : Nat => s.heap.size ≤ q) a := fun a h => Nat.not_le.mpr h
  obtain ⟨tN, hN⟩ := Classical.axiomOfChoice (ys_num hgv hA)
  obtain ⟨z, hz⟩ := Classical.axiomOfChoice (ys_txt hgv hA)
  obtain ⟨D, hD⟩ := Classical.axiomOfChoice (ys_cls (b := b) hts)
  obtain ⟨a1, a2, a3, a4, a5, a6⟩ := ys_xA2
  obtain ⟨c0, k0⟩ := ys_arI (ys_of hts a5)
  obtain ⟨c1, k1⟩ := ys_arB (ys_of hts a4)
  obtain ⟨c2, k2⟩ := ys_arL (ys_of hts a6)
  obtain ⟨c3, k3⟩ := ys_arO (ys_of hts a1)
  obtain ⟨c4, k4⟩ := ys_arO (ys_of hts a2)
  obtain ⟨c5, k5⟩ := ys_arO (ys_of hts a3)
  obtain ⟨f1, f2, f3, f4, f5, f6⟩ := ys_xA
  obtain ⟨t1, t2, t3, t4, t5, t6, t7, t8, t9, t10⟩ := ys_xT
  obtain ⟨d1, d2, d3⟩ := ys_xD
  obtain ⟨x, -, -, -, hx, -⟩ := Cond.exactly_spec (args := #[Value.ref b]) (first := s) (o := none) (s := s) (idx := []) (ys_in hgv f1)
  obtain ⟨y, -, -, -, hy, -⟩ := Cond.exactly_spec (args := #[Value.ref b]) (first := s) (o := none) (s := s) (idx := []) (ys_in hgv f2)
  have hfm := va_Zqof (ys_of hts t4) (ys_of hts t9) (ys_in hgv f4) hA
  obtain ⟨f, hf⟩ : ∃ f : Nat, va_Z "jdk/internal/util/Preconditions" "SIOOBE_FORMATTER" "Ljava/util/function/BiFunction;" .null (fun q : Nat => s.heap.size ≤ q) s s.heap ∨ va_Z "jdk/internal/util/Preconditions" "SIOOBE_FORMATTER" "Ljava/util/function/BiFunction;" (.ref f) (fun q : Nat => s.heap.size ≤ q) s s.heap := by
    rcases hfm with h | ⟨t, h⟩
    · exact ⟨0, .inl h⟩
    · exact ⟨t, .inr h⟩
  refine ⟨(s.heap.size, ys_sa tN z f b L x y xs, (fun c => (D c).1, fun c => (D c).2), fun t => if t = 0 then c0 else if t = 1 then c1 else if t = 2 then c2 else if t = 3 then c3 else if t = 4 then c4 else c5), rfl, rfl, rfl, ⟨?_, ?_, ?_, ?_⟩, ⟨?_, ?_, ?_, ?_, ?_, ?_, ?_⟩, ⟨?_, ?_, ?_, ?_, ?_⟩⟩
  · intro w hw
    exact word_at (args := #[Value.ref b]) (s := s) (U := s) (State.WarmedH.refl s) (q_gw_good hw) (hts w (List.mem_filter.mp hw).1)
  · intro w hw
    exact va_Nw.of (ys_nwT (List.mem_filter.mp hw).2) (hts w (List.mem_append_right _ (List.mem_filter.mp hw).1))
  · exact fun c q h => hD c q h
  · intro k q h
    rcases k with _ | _ | _ | _ | _ | _ | k
    · cases h; exact k0
    · cases h; exact k1
    · cases h; exact k2
    · cases h; exact k3
    · cases h; exact k4
    · cases h; exact k5
    · simp [q_tys] at h
  · intro k hk
    show va_T .int (ys_sa tN z f b L x y xs k) _ _ _ s s.heap
    rw [ys_s4 k hk]
    exact (hN k hk).2
  · intro i hi
    show va_O _ (ys_sa tN z f b L x y xs (4 + 2 * i)) _ s s.heap ∧ va_OF _ _ _ _ (ys_sa tN z f b L x y xs (4 + 2 * i)) _ s s.heap ∧ va_OF _ _ _ (.ref (ys_sa tN z f b L x y xs (5 + 2 * i))) (ys_sa tN z f b L x y xs (4 + 2 * i)) _ s s.heap ∧ va_T _ (ys_sa tN z f b L x y xs (5 + 2 * i)) _ _ _ s s.heap
    rw [ys_sK i hi, ys_sV i hi]
    exact (hz i hi).2
  · have hk : ∀ k : Nat, k < 4 → va_Z "GongHouse" (["RULE_BOUNDS", "DISH_BOUNDS", "GUEST_BOUNDS", "STEP_DIGITS"].getD k "") "[I" (.ref (tN k)) (fun q : Nat => s.heap.size ≤ q) s s.heap := fun k hk => va_Zof (ys_of hts (ys_xN k hk)) (ys_of hts t7) (hN k hk).1 hA
    intro w hw
    simp only [q_zs, List.mem_cons, List.not_mem_nil, or_false] at hw
    rcases hw with rfl | rfl | rfl | rfl | rfl
    · exact hk 0 (by decide)
    · exact hk 1 (by decide)
    · exact hk 2 (by decide)
    · exact hk 3 (by decide)
    · exact va_Zof (ys_of hts t3) (ys_of hts t8) (va_eqt (ys_in hgv f3)) hA
  · intro i w h
    have hi : i < 15 := (List.getElem?_eq_some_iff.mp h).1
    have e : w = ys_k i := by
      unfold ys_k
      rw [List.getD_eq_getElem?_getD, h]
      rfl
    subst e
    show vk_R _ _ _ (ys_sa tN z f b L x y xs (4 + 2 * i)) s
    rw [ys_sK i hi]
    exact vk_R.of (ys_of hts (ys_tR i hi)) (hz i hi).1
  · exact ⟨va_AO.of (ys_of hts a1), va_AO.of (ys_of hts a2), va_AO.of (ys_of hts a3)⟩
  · exact hf
  · obtain ⟨scr, h1, h2, h3, h4, h5⟩ := hX
    refine ⟨scr, h1, h2, h3, Nat.le_of_eq h4.symm, by rw [h4]; rfl, fun j hj => ?_, hA b hbl⟩
    show scr.slots[j]? = some (.int (Int32.ofNat (ys_sa tN z f b L x y xs (1000 + j))))
    rw [ys_sX, ys_bv]
    exact h5 j hj
  · intro w hw
    simp only [q_dcl, List.mem_cons, List.not_mem_nil, or_false] at hw
    rcases hw with rfl | rfl | rfl
    · exact va_Nw.of rfl (ys_of hts d1)
    · exact va_Nw.of rfl (ys_of hts d2)
    · exact va_Nw.of rfl (ys_of hts d3)
  · exact vx_Zqof (ys_of hts t5) (ys_of hts t10) (ys_in hgv f5) hA
  · exact vx_Zqof (ys_of hts t6) (ys_of hts t10) (ys_in hgv f6) hA
  · exact vk_R.of (ys_of hts t1) hx
  · exact vk_R.of (ys_of hts t2) hy
end YSB
/-- the start's memory -/
def ys_B (G : q_G) : q_Mem := (fun k => (q_stc G k).2.1, fun _ _ => 0, fun k => (q_stc G k).2.2, (List.range 36).map (fun k => (q_stc G k).1))
theorem ys_stc (G G' : q_G) (k : Nat) (h : k < 34) : q_stc G k = q_stc G' k := by
  unfold q_stc
  rw [if_neg (show ¬ k = 34 by omega), if_neg (show ¬ k = 35 by omega), if_neg (show ¬ k = 34 by omega), if_neg (show ¬ k = 35 by omega)]
def ys_G : q_G := (0, fun _ => 0, (fun _ => 0, fun _ _ => 0), fun _ => 0)
theorem ys_shT : ∀ z ∈ p_shT, z.1 < 36 → z.1 < 34 ∧ (q_stc ys_G z.1).1 = z.2 := by decide +kernel
theorem ys_rfT : ∀ z ∈ p_rfT, z.1 < 36 → z.1 < 34 ∧ (q_stc ys_G z.1).2.2 z.2.1 = z.2.2 := by decide +kernel
theorem ys_law (G : q_G) (hn : G.2.1 99 ≤ 3072) : ∃ M', F_L_law G (yd_mk (ys_B G) ([], [], [], [])) = some (1, M') := by
  refine yt_law hn ?_ ?_ ?_ ?_
  · show ((List.range 36).map (fun k => (q_stc G k).1)).length = 36
    rw [List.length_map, List.length_range]
  · intro z hz h
    obtain ⟨h1, h2⟩ := ys_shT z hz h
    show ((List.range 36).map (fun k => (q_stc G k).1))[z.1]? = some z.2
    rw [List.getElem?_map, List.getElem?_range h]
    show some (q_stc G z.1).1 = some z.2
    rw [ys_stc G ys_G _ h1, h2]
  · intro z hz h
    obtain ⟨h1, h2⟩ := ys_rfT z hz h
    show (q_stc G z.1).2.2 z.2.1 = z.2.2
    rw [ys_stc G ys_G _ h1, h2]
  · intro k hk
    show (q_stc G k).2.1 = t_stc k
    unfold q_stc t_stc
    rw [if_neg (show ¬ k = 34 by omega), if_neg (show ¬ k = 35 by omega)]
    split
    · rfl
    · split
      · rfl
      · rfl
theorem ys_sim (G : q_G) {H : Heap} (h : G.1 = H.size) : q_Sim G (yd_mk (ys_B G) ([], [], [], [])) H := by
  have hl : (yd_mk (ys_B G) ([], [], [], [])).2.2.2 = (List.range 36).map (fun k => (q_stc G k).1) := List.append_nil _
  refine ⟨fun k hk => ⟨?_, ?_, ?_⟩, ?_, fun k w hk hw => ?_⟩
  · rw [hl, List.getElem?_map, List.getElem?_range (show k < 36 from hk)]
    rfl
  · exact if_pos hk
  · exact if_pos hk
  · rw [hl, List.length_map, List.length_range, h]
    rfl
  · rw [hl, List.getElem?_map, List.getElem?_eq_none (by rw [List.length_range]; exact hk)] at hw
    cases hw
