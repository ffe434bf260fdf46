/-! one turn of the law, and the law over every script -/
def yt_P (l : Int32) (o : Option ((Int32 × q_Mem) ⊕ q_Mem)) : Prop := ∃ M', o = some (.inl (l + 6, M')) ∧ ∃ A, v_V A M'.1 M'.2
abbrev q_wS (G : q_G) (i : Int32) : Int32 := Int32.ofNat (G.2.1 (1000 + i.toNatClampNeg))
def yt_ok (G : q_G) (i : Int32) : Prop := ¬ (i < 0 ∨ G.2.1 99 ≤ i.toNatClampNeg)
section YT
variable {G : q_G} {l : Int32} {a b : Option ((Int32 × q_Mem) ⊕ q_Mem)}
theorem yt_ite {c : Prop} [Decidable c] (h1 : yt_P l a) (h2 : yt_P l b) : yt_P l (if c then a else b) := by
  split
  · exact h1
  · exact h2
theorem yt_eq {u : Int32} (h : yt_P l a) : yt_P l (if u = u then a else b) := by
  rw [if_pos rfl]
  exact h
theorem yt_s {i : Int32} {f : Int32 → Option ((Int32 × q_Mem) ⊕ q_Mem)} (h : yt_ok G i) (k : yt_P l (f (Int32.ofNat (G.2.1 (1000 + i.toNatClampNeg))))) : yt_P l (q_sc G i f) := by
  unfold q_sc
  rw [if_neg h]
  exact k
theorem yt_c {α : Type} {M : q_Mem} {k ci : Nat} {o : Option α} {z : α} {g : α → Option ((Int32 × q_Mem) ⊕ q_Mem)} (hs : M.2.2.2[k]? = some (.inl ci)) (e : o = some z) (kk : yt_P l (g z)) : yt_P l (q_ob M k ci (o.bind g)) := by
  unfold q_ob
  rw [if_pos hs, e]
  exact kk
theorem yt_sh {M : q_Mem} {f : q_Mem → Option (Int32 × q_Mem)} {z : Int32 × q_Mem} (e : q_pI M 87 12 0 0 f = some z) : M.2.2.2[87]? = some (.inl 12) := by
  unfold q_pI at e
  split at e
  · next h => exact h.1
  · cases e
theorem yt_J {M : q_Mem} {A : v_A} {k1 k2 k3 : Nat} (hv : v_V A M.1 M.2) : yt_P l (J_L_law_1542_23 G k1 k2 k3 l M) := ⟨M, rfl, A, hv⟩
theorem yt_cmp (v : Int64) : lg_cmp v v = 0 := by
  unfold lg_cmp
  simp
theorem yt_guest {A : v_A} {I : p_I} {X : p_X} (h : v_V A I X) (x y : Int32) : (∃ r V, F_L_guest 36 x y 108 (I, X) = some (0, (I, V)) ∧ F_X12_guest 87 x y (I, V) = some (r, (q_u2 I 87 0 0, V)) ∧ V.1 108 0 = r.toInt64 ∧ v_V A (q_u2 I 87 0 0) V) ∨ (∃ I' X', F_L_guest 36 x y 108 (I, X) = some (1, (I', X')) ∧ F_X12_guest 87 x y (I', X') = some (0, (q_u2 I' 87 0 1, X')) ∧ v_V A (q_u2 I' 87 0 1) X') := by
  have s36 := sh_36 h.1
  have s108 := sh_108 h.1
  by_cases hx : t_inr x (t_ng A.1) = true ∧ t_inr y 6 = true
  · left
    obtain ⟨r, hr, g1, g2, hk⟩ := m_guest h x y hx.1 hx.2
    have h' := v_long h (q_u2 X.1 108 0 r.toInt64)
    obtain ⟨r', hr', g1', g2', hk'⟩ := m_guest h' x y hx.1 hx.2
    rw [← hr] at hr'
    subst hr'
    refine ⟨r', (q_u2 X.1 108 0 r'.toInt64, X.2), ?_, g2', ?_, hk'⟩
    · unfold F_L_guest q_ob
      rw [if_pos s36, g1]
      show q_tL (I, X) 108 0 r'.toInt64 (fun M2 => some ((0 : Int32), M2)) = _
      unfold q_tL
      rw [p_ln s108, if_neg (by decide)]
      rfl
    · show q_u2 X.1 108 0 r'.toInt64 108 0 = _
      unfold q_u2 va_up
      rw [if_pos rfl, if_pos rfl]
  · right
    have hn : t_inr x (t_ng A.1) = false ∨ t_inr y 6 = false := by
      cases e1 : t_inr x (t_ng A.1)
      · exact .inl rfl
      · cases e2 : t_inr y 6
        · exact .inr rfl
        · exact absurd ⟨e1, e2⟩ hx
    obtain ⟨g1, g2⟩ := m_guestX h x y hn
    obtain ⟨I', X', e, h'⟩ := yq_vpush h q_jk
    obtain ⟨m1, m2⟩ := m_guestN h' x y hn
    refine ⟨I', X', ?_, m1, m2⟩
    unfold F_L_guest q_ob
    rw [if_pos s36, g1, g2, e]
    rfl
theorem yt_thr {I : p_I} {X : p_X} (h : p_B X) (v : Int32) : F_X12_thrown 87 (q_u2 I 87 0 v, X) = some v := by
  unfold F_X12_thrown q_gI
  rw [if_pos (sh_87 h)]
  show some (q_u2 I 87 0 v 87 0) = some v
  unfold q_u2 va_up
  rw [if_pos rfl, if_pos rfl]
theorem yt_bind {α : Type} {o : Option α} {z : α} {g : α → Option ((Int32 × q_Mem) ⊕ q_Mem)} (e : o = some z) (kk : yt_P l (g z)) : yt_P l (o.bind g) := by
  rw [e]
  exact kk
theorem yt_pos {c : Prop} [Decidable c] (hc : c) (h : yt_P l a) : yt_P l (if c then a else b) := by
  rw [if_pos hc]
  exact h
theorem yt_neg {c : Prop} [Decidable c] (hc : ¬ c) (h : yt_P l b) : yt_P l (if c then a else b) := by
  rw [if_neg hc]
  exact h
theorem yt_lL {I : p_I} {V : p_X} {w : Int64} {f : Int64 → Option ((Int32 × q_Mem) ⊕ q_Mem)} (h : p_B V) (e : V.1 108 0 = w) (k : yt_P l (f w)) : yt_P l (q_lL (I, V) 108 0 f) := by
  unfold q_lL
  rw [p_ln (sh_108 h), if_neg (by decide)]
  show yt_P l (f (V.1 108 0))
  rw [e]
  exact k

theorem yu_feed {A : v_A} {I : p_I} {X : p_X} (h : v_V A I X) (h1 : yt_ok G (l + 1)) (h2 : yt_ok G (l + 2)) (h3 : yt_ok G (l + 3)) (h4 : yt_ok G (l + 4)) (h5 : yt_ok G (l + 5)) : yt_P l ((q_sc G (l + (1 : Int32)) (fun v13 => (q_sc G (l + (2 : Int32)) (fun v14 => (q_sc G (l + (3 : Int32)) (fun v15 => (q_sc G (l + (4 : Int32)) (fun v16 => (q_sc G (l + (5 : Int32)) (fun v17 => (q_ob (I, X) 36 11 ((F_X11_feed 36 v13 v14 v15 v16 v17 (I, X)).bind (fun x => match x with | (u18, M19) => (q_sc G (l + (1 : Int32)) (fun v20 => (q_sc G (l + (2 : Int32)) (fun v21 => (q_sc G (l + (3 : Int32)) (fun v22 => (q_sc G (l + (4 : Int32)) (fun v23 => (q_sc G (l + (5 : Int32)) (fun v24 => (q_ob M19 87 12 ((F_X12_feed 87 v20 v21 v22 v23 v24 M19).bind (fun x => match x with | (u25, M26) => (if u18 = u25 then J_L_law_1542_23 G 36 87 108 l M26 else none)))))))))))))))))))))))))))) := by
  obtain ⟨r, I1, J, X1, m1, m2, hv⟩ := m_feed h (q_wS G (l + 1)) (q_wS G (l + 2)) (q_wS G (l + 3)) (q_wS G (l + 4)) (q_wS G (l + 5))
  exact yt_s h1 (yt_s h2 (yt_s h3 (yt_s h4 (yt_s h5 (yt_c (sh_36 h.1) m1 (yt_s h1 (yt_s h2 (yt_s h3 (yt_s h4 (yt_s h5 (yt_c (yt_sh m2) m2 (yt_eq (yt_J hv)))))))))))))
theorem yu_end {A : v_A} {I : p_I} {X : p_X} (h : v_V A I X) (h1 : yt_ok G (l + 1)) (h2 : yt_ok G (l + 2)) (h3 : yt_ok G (l + 3)) (h4 : yt_ok G (l + 4)) (h5 : yt_ok G (l + 5)) : yt_P l ((q_sc G (l + (1 : Int32)) (fun v27 => (q_ob (I, X) 36 11 ((F_X11_end 36 v27 (I, X)).bind (fun x => match x with | (u28, M29) => (q_sc G (l + (1 : Int32)) (fun v30 => (q_ob M29 87 12 ((F_X12_end 87 v30 M29).bind (fun x => match x with | (u31, M32) => (if u28 = u31 then J_L_law_1542_23 G 36 87 108 l M32 else none)))))))))))) := by
  obtain ⟨r, I1, J, m1, m2, hv⟩ := m_end h (q_wS G (l + 1))
  exact yt_s h1 (yt_c (sh_36 h.1) m1 (yt_s h1 (yt_c (yt_sh m2) m2 (yt_eq (yt_J hv)))))
theorem yu_fault {A : v_A} {I : p_I} {X : p_X} (h : v_V A I X) (h1 : yt_ok G (l + 1)) (h2 : yt_ok G (l + 2)) (h3 : yt_ok G (l + 3)) (h4 : yt_ok G (l + 4)) (h5 : yt_ok G (l + 5)) : yt_P l ((q_sc G (l + (1 : Int32)) (fun v33 => (q_ob (I, X) 36 11 ((F_X11_fault 36 v33 (I, X)).bind (fun x => match x with | (u34, M35) => (q_sc G (l + (1 : Int32)) (fun v36 => (q_ob M35 87 12 ((F_X12_fault 87 v36 M35).bind (fun x => match x with | (u37, M38) => (if u34 = u37 then J_L_law_1542_23 G 36 87 108 l M38 else none)))))))))))) := by
  obtain ⟨r, I1, J, X1, m1, m2, hv⟩ := m_fault h (q_wS G (l + 1))
  exact yt_s h1 (yt_c (sh_36 h.1) m1 (yt_s h1 (yt_c (yt_sh m2) m2 (yt_eq (yt_J hv)))))
theorem yu_text {A : v_A} {I : p_I} {X : p_X} (h : v_V A I X) (h1 : yt_ok G (l + 1)) (h2 : yt_ok G (l + 2)) (h3 : yt_ok G (l + 3)) (h4 : yt_ok G (l + 4)) (h5 : yt_ok G (l + 5)) : yt_P l ((q_sc G (l + (1 : Int32)) (fun v39 => (q_ob (I, X) 36 11 ((F_X11_text 36 v39 (I, X)).bind (fun x => match x with | (u40, M41) => (q_sc G (l + (1 : Int32)) (fun v42 => (q_ob M41 87 12 ((F_X12_text 87 v42 M41).bind (fun x => match x with | (u43, M44) => (if u40 = u43 then J_L_law_1542_23 G 36 87 108 l M44 else none)))))))))))) := by
  obtain ⟨r, I1, J, X1, X2, A2, m1, m2, hv⟩ := m_text h (q_wS G (l + 1))
  exact yt_s h1 (yt_c (sh_36 h.1) m1 (yt_s h1 (yt_c (yt_sh m2) m2 (yt_eq (yt_J hv)))))
theorem yu_rule {A : v_A} {I : p_I} {X : p_X} (h : v_V A I X) (h1 : yt_ok G (l + 1)) (h2 : yt_ok G (l + 2)) (h3 : yt_ok G (l + 3)) (h4 : yt_ok G (l + 4)) (h5 : yt_ok G (l + 5)) : yt_P l ((q_sc G (l + (1 : Int32)) (fun v45 => (q_ob (I, X) 36 11 ((F_X11_rule 36 v45 (I, X)).bind (fun u46 => (q_sc G (l + (1 : Int32)) (fun v47 => (q_ob (I, X) 87 12 ((F_X12_rule 87 v47 (I, X)).bind (fun x => match x with | (u48, M49) => (if u46 = u48 then J_L_law_1542_23 G 36 87 108 l M49 else none)))))))))))) := by
  obtain ⟨r, J, m1, m2, hv⟩ := m_rule h (q_wS G (l + 1))
  exact yt_s h1 (yt_c (sh_36 h.1) m1 (yt_s h1 (yt_c (yt_sh m2) m2 (yt_eq (yt_J hv)))))
theorem yu_dish {A : v_A} {I : p_I} {X : p_X} (h : v_V A I X) (h1 : yt_ok G (l + 1)) (h2 : yt_ok G (l + 2)) (h3 : yt_ok G (l + 3)) (h4 : yt_ok G (l + 4)) (h5 : yt_ok G (l + 5)) : yt_P l ((q_sc G (l + (1 : Int32)) (fun v50 => (q_sc G (l + (2 : Int32)) (fun v51 => (q_ob (I, X) 36 11 ((F_X11_dish 36 v50 v51 (I, X)).bind (fun u52 => (q_sc G (l + (1 : Int32)) (fun v53 => (q_sc G (l + (2 : Int32)) (fun v54 => (q_ob (I, X) 87 12 ((F_X12_dish 87 v53 v54 (I, X)).bind (fun x => match x with | (u55, M56) => (if u52 = u55 then J_L_law_1542_23 G 36 87 108 l M56 else none)))))))))))))))) := by
  obtain ⟨r, J, m1, m2, hv⟩ := m_dish h (q_wS G (l + 1)) (q_wS G (l + 2))
  exact yt_s h1 (yt_s h2 (yt_c (sh_36 h.1) m1 (yt_s h1 (yt_s h2 (yt_c (yt_sh m2) m2 (yt_eq (yt_J hv)))))))
theorem yu_guest {A : v_A} {I : p_I} {X : p_X} (h : v_V A I X) (h1 : yt_ok G (l + 1)) (h2 : yt_ok G (l + 2)) (h3 : yt_ok G (l + 3)) (h4 : yt_ok G (l + 4)) (h5 : yt_ok G (l + 5)) : yt_P l ((q_sc G (l + (1 : Int32)) (fun v57 => (q_sc G (l + (2 : Int32)) (fun v58 => ((F_L_guest 36 v57 v58 108 (I, X)).bind (fun x => match x with | (u59, M60) => (q_sc G (l + (1 : Int32)) (fun v61 => (q_sc G (l + (2 : Int32)) (fun v62 => (q_ob M60 87 12 ((F_X12_guest 87 v61 v62 M60).bind (fun x => match x with | (u63, M64) => (q_ob M64 87 12 ((F_X12_thrown 87 M64).bind (fun u65 => (if u65 = u59 then (if u59 = 0 then (q_lL M64 108 (0 : Int32) (fun v66 => (if (lg_cmp v66 u63.toInt64) = 0 then J_L_law_487_23 G 36 87 108 l M64 else none))) else J_L_law_487_23 G 36 87 108 l M64) else none)))))))))))))))))) := by
  refine yt_s h1 (yt_s h2 ?_)
  rcases yt_guest h (q_wS G (l + 1)) (q_wS G (l + 2)) with ⟨r, V, m1, m2, e, hv⟩ | ⟨I2, X2, m1, m2, hv⟩
  · exact yt_bind m1 (yt_s h1 (yt_s h2 (yt_c (sh_87 hv.1) m2 (yt_c (sh_87 hv.1) (yt_thr hv.1 0) (yt_eq (yt_pos rfl (yt_lL hv.1 e (yt_pos (yt_cmp _) (yt_J hv)))))))))
  · exact yt_bind m1 (yt_s h1 (yt_s h2 (yt_c (sh_87 hv.1) m2 (yt_c (sh_87 hv.1) (yt_thr hv.1 1) (yt_eq (yt_neg (by decide) (yt_J hv)))))))
theorem yu_law {A : v_A} {I : p_I} {X : p_X} (h : v_V A I X) (h1 : yt_ok G (l + 1)) (h2 : yt_ok G (l + 2)) (h3 : yt_ok G (l + 3)) (h4 : yt_ok G (l + 4)) (h5 : yt_ok G (l + 5)) : yt_P l ((q_sc G (l + (1 : Int32)) (fun v67 => (q_ob (I, X) 36 11 ((F_X11_law 36 v67 (I, X)).bind (fun x => match x with | (u68, M69) => (q_sc G (l + (1 : Int32)) (fun v70 => (q_ob M69 87 12 ((F_X12_law 87 v70 M69).bind (fun x => match x with | (u71, M72) => (if u68 = u71 then J_L_law_1542_23 G 36 87 108 l M72 else none)))))))))))) := by
  obtain ⟨r, I1, J, X1, m1, m2, hv⟩ := m_law h (q_wS G (l + 1))
  exact yt_s h1 (yt_c (sh_36 h.1) m1 (yt_s h1 (yt_c (yt_sh m2) m2 (yt_eq (yt_J hv)))))
theorem yu_fever {A : v_A} {I : p_I} {X : p_X} (h : v_V A I X) (h1 : yt_ok G (l + 1)) (h2 : yt_ok G (l + 2)) (h3 : yt_ok G (l + 3)) (h4 : yt_ok G (l + 4)) (h5 : yt_ok G (l + 5)) : yt_P l ((q_sc G (l + (1 : Int32)) (fun v73 => (q_ob (I, X) 36 11 ((F_X11_fever 36 v73 (I, X)).bind (fun x => match x with | (u74, M75) => (q_sc G (l + (1 : Int32)) (fun v76 => (q_ob M75 87 12 ((F_X12_fever 87 v76 M75).bind (fun x => match x with | (u77, M78) => (if u74 = u77 then J_L_law_1542_23 G 36 87 108 l M78 else none)))))))))))) := by
  obtain ⟨r, I1, J, m1, m2, hv⟩ := m_fever h (q_wS G (l + 1))
  exact yt_s h1 (yt_c (sh_36 h.1) m1 (yt_s h1 (yt_c (yt_sh m2) m2 (yt_eq (yt_J hv)))))
theorem yu_day {A : v_A} {I : p_I} {X : p_X} (h : v_V A I X) (h1 : yt_ok G (l + 1)) (h2 : yt_ok G (l + 2)) (h3 : yt_ok G (l + 3)) (h4 : yt_ok G (l + 4)) (h5 : yt_ok G (l + 5)) : yt_P l ((q_ob (I, X) 36 11 ((F_X11_day 36 (I, X)).bind (fun x => match x with | (u79, M80) => (q_ob M80 87 12 ((F_X12_day 87 M80).bind (fun x => match x with | (u81, M82) => (if u79 = u81 then J_L_law_1542_23 G 36 87 108 l M82 else none)))))))) := by
  obtain ⟨r, I1, J, X0, X1, D, m1, m2, hv⟩ := m_day h 
  exact yt_c (sh_36 h.1) m1 (yt_c (yt_sh m2) m2 (yt_eq (yt_J hv)))
theorem yu_choose {A : v_A} {I : p_I} {X : p_X} (h : v_V A I X) (h1 : yt_ok G (l + 1)) (h2 : yt_ok G (l + 2)) (h3 : yt_ok G (l + 3)) (h4 : yt_ok G (l + 4)) (h5 : yt_ok G (l + 5)) : yt_P l ((q_sc G (l + (1 : Int32)) (fun v83 => (q_ob (I, X) 36 11 ((F_X11_choose 36 v83 (I, X)).bind (fun x => match x with | (u84, M85) => (q_sc G (l + (1 : Int32)) (fun v86 => (q_ob M85 87 12 ((F_X12_choose 87 v86 M85).bind (fun x => match x with | (u87, M88) => (if u84 = u87 then J_L_law_1542_23 G 36 87 108 l M88 else none)))))))))))) := by
  obtain ⟨r, I1, J, X1, m1, m2, hv⟩ := m_choose h (q_wS G (l + 1))
  exact yt_s h1 (yt_c (sh_36 h.1) m1 (yt_s h1 (yt_c (yt_sh m2) m2 (yt_eq (yt_J hv)))))
theorem yu_ill {A : v_A} {I : p_I} {X : p_X} (h : v_V A I X) (h1 : yt_ok G (l + 1)) (h2 : yt_ok G (l + 2)) (h3 : yt_ok G (l + 3)) (h4 : yt_ok G (l + 4)) (h5 : yt_ok G (l + 5)) : yt_P l ((q_ob (I, X) 36 11 ((F_X11_ill 36 (I, X)).bind (fun x => match x with | (u89, M90) => (q_ob M90 87 12 ((F_X12_ill 87 M90).bind (fun x => match x with | (u91, M92) => (if u89 = u91 then J_L_law_1542_23 G 36 87 108 l M92 else none)))))))) := by
  obtain ⟨r, I1, J, X1, m1, m2, hv⟩ := m_ill h 
  exact yt_c (sh_36 h.1) m1 (yt_c (yt_sh m2) m2 (yt_eq (yt_J hv)))
theorem yu_makeUp {A : v_A} {I : p_I} {X : p_X} (h : v_V A I X) (h1 : yt_ok G (l + 1)) (h2 : yt_ok G (l + 2)) (h3 : yt_ok G (l + 3)) (h4 : yt_ok G (l + 4)) (h5 : yt_ok G (l + 5)) : yt_P l ((q_ob (I, X) 36 11 ((F_X11_makeUp 36 (I, X)).bind (fun x => match x with | (u93, M94) => (q_ob M94 87 12 ((F_X12_makeUp 87 M94).bind (fun x => match x with | (u95, M96) => (if u93 = u95 then J_L_law_1542_23 G 36 87 108 l M96 else none)))))))) := by
  obtain ⟨r, I1, J, X1, m1, m2, hv⟩ := m_makeUp h 
  exact yt_c (sh_36 h.1) m1 (yt_c (yt_sh m2) m2 (yt_eq (yt_J hv)))
theorem yu_stay {A : v_A} {I : p_I} {X : p_X} (h : v_V A I X) (h1 : yt_ok G (l + 1)) (h2 : yt_ok G (l + 2)) (h3 : yt_ok G (l + 3)) (h4 : yt_ok G (l + 4)) (h5 : yt_ok G (l + 5)) : yt_P l ((q_sc G (l + (1 : Int32)) (fun v97 => (q_sc G (l + (2 : Int32)) (fun v98 => (q_ob (I, X) 36 11 ((F_X11_stay 36 v97 v98 (I, X)).bind (fun x => match x with | (u99, M100) => (q_sc G (l + (1 : Int32)) (fun v101 => (q_sc G (l + (2 : Int32)) (fun v102 => (q_ob M100 87 12 ((F_X12_stay 87 v101 v102 M100).bind (fun x => match x with | (u103, M104) => (if u99 = u103 then J_L_law_1542_23 G 36 87 108 l M104 else none)))))))))))))))) := by
  obtain ⟨r, I1, J, X1, m1, m2, hv⟩ := m_stay h (q_wS G (l + 1)) (q_wS G (l + 2))
  exact yt_s h1 (yt_s h2 (yt_c (sh_36 h.1) m1 (yt_s h1 (yt_s h2 (yt_c (yt_sh m2) m2 (yt_eq (yt_J hv)))))))
theorem yu_sign {A : v_A} {I : p_I} {X : p_X} (h : v_V A I X) (h1 : yt_ok G (l + 1)) (h2 : yt_ok G (l + 2)) (h3 : yt_ok G (l + 3)) (h4 : yt_ok G (l + 4)) (h5 : yt_ok G (l + 5)) : yt_P l ((q_sc G (l + (1 : Int32)) (fun v105 => (q_sc G (l + (2 : Int32)) (fun v106 => (q_ob (I, X) 36 11 ((F_X11_sign 36 v105 v106 (I, X)).bind (fun x => match x with | (u107, M108) => (q_sc G (l + (1 : Int32)) (fun v109 => (q_sc G (l + (2 : Int32)) (fun v110 => (q_ob M108 87 12 ((F_X12_sign 87 v109 v110 M108).bind (fun x => match x with | (u111, M112) => (if u107 = u111 then J_L_law_1542_23 G 36 87 108 l M112 else none)))))))))))))))) := by
  obtain ⟨r, I1, J, X1, m1, m2, hv⟩ := m_sign h (q_wS G (l + 1)) (q_wS G (l + 2))
  exact yt_s h1 (yt_s h2 (yt_c (sh_36 h.1) m1 (yt_s h1 (yt_s h2 (yt_c (yt_sh m2) m2 (yt_eq (yt_J hv)))))))
theorem yu_years {A : v_A} {I : p_I} {X : p_X} (h : v_V A I X) (h1 : yt_ok G (l + 1)) (h2 : yt_ok G (l + 2)) (h3 : yt_ok G (l + 3)) (h4 : yt_ok G (l + 4)) (h5 : yt_ok G (l + 5)) : yt_P l ((q_sc G (l + (1 : Int32)) (fun v113 => (q_sc G (l + (2 : Int32)) (fun v114 => (q_sc G (l + (3 : Int32)) (fun v115 => (q_ob (I, X) 36 11 ((F_X11_years 36 v113 ((v114.toInt64 <<< ((32 : Int32).toInt64 &&& 63)) ||| (v115.toInt64 &&& (4294967295 : Int64))) (I, X)).bind (fun x => match x with | (u116, M117) => (q_sc G (l + (1 : Int32)) (fun v118 => (q_sc G (l + (2 : Int32)) (fun v119 => (q_sc G (l + (3 : Int32)) (fun v120 => (q_ob M117 87 12 ((F_X12_years 87 v118 ((v119.toInt64 <<< ((32 : Int32).toInt64 &&& 63)) ||| (v120.toInt64 &&& (4294967295 : Int64))) M117).bind (fun x => match x with | (u121, M122) => (if u116 = u121 then J_L_law_1542_23 G 36 87 108 l M122 else none)))))))))))))))))))) := by
  obtain ⟨r, I1, J, X0, X1, D, m1, m2, hv⟩ := m_years h (q_wS G (l + 1)) (((q_wS G (l + 2)).toInt64 <<< ((32 : Int32).toInt64 &&& 63)) ||| ((q_wS G (l + 3)).toInt64 &&& (4294967295 : Int64)))
  exact yt_s h1 (yt_s h2 (yt_s h3 (yt_c (sh_36 h.1) m1 (yt_s h1 (yt_s h2 (yt_s h3 (yt_c (yt_sh m2) m2 (yt_eq (yt_J hv)))))))))
theorem yu_undo {A : v_A} {I : p_I} {X : p_X} (h : v_V A I X) (h1 : yt_ok G (l + 1)) (h2 : yt_ok G (l + 2)) (h3 : yt_ok G (l + 3)) (h4 : yt_ok G (l + 4)) (h5 : yt_ok G (l + 5)) : yt_P l ((q_ob (I, X) 36 11 ((F_X11_undo 36 (I, X)).bind (fun x => match x with | (u123, M124) => (q_ob M124 87 12 ((F_X12_undo 87 M124).bind (fun x => match x with | (u125, M126) => (if u123 = u125 then J_L_law_1542_23 G 36 87 108 l M126 else none)))))))) := by
  obtain ⟨r, I1, J, X1, D, m1, m2, hv⟩ := m_undo h 
  exact yt_c (sh_36 h.1) m1 (yt_c (yt_sh m2) m2 (yt_eq (yt_J hv)))
theorem yu_log {A : v_A} {I : p_I} {X : p_X} (h : v_V A I X) (h1 : yt_ok G (l + 1)) (h2 : yt_ok G (l + 2)) (h3 : yt_ok G (l + 3)) (h4 : yt_ok G (l + 4)) (h5 : yt_ok G (l + 5)) : yt_P l ((q_sc G (l + (1 : Int32)) (fun v127 => (q_sc G (l + (2 : Int32)) (fun v128 => (q_ob (I, X) 36 11 ((F_X11_log 36 v127 v128 (I, X)).bind (fun u129 => (q_sc G (l + (1 : Int32)) (fun v130 => (q_sc G (l + (2 : Int32)) (fun v131 => (q_ob (I, X) 87 12 ((F_X12_log 87 v130 v131 (I, X)).bind (fun x => match x with | (u132, M133) => (if u129 = u132 then J_L_law_1542_23 G 36 87 108 l M133 else none)))))))))))))))) := by
  obtain ⟨r, J, m1, m2, hv⟩ := m_log h (q_wS G (l + 1)) (q_wS G (l + 2))
  exact yt_s h1 (yt_s h2 (yt_c (sh_36 h.1) m1 (yt_s h1 (yt_s h2 (yt_c (yt_sh m2) m2 (yt_eq (yt_J hv)))))))
theorem yu_step {A : v_A} {I : p_I} {X : p_X} (h : v_V A I X) (h1 : yt_ok G (l + 1)) (h2 : yt_ok G (l + 2)) (h3 : yt_ok G (l + 3)) (h4 : yt_ok G (l + 4)) (h5 : yt_ok G (l + 5)) : yt_P l ((q_sc G (l + (1 : Int32)) (fun v134 => (q_sc G (l + (2 : Int32)) (fun v135 => (q_sc G (l + (3 : Int32)) (fun v136 => (q_ob (I, X) 36 11 ((F_X11_step 36 v134 v135 v136 (I, X)).bind (fun u137 => (q_sc G (l + (1 : Int32)) (fun v138 => (q_sc G (l + (2 : Int32)) (fun v139 => (q_sc G (l + (3 : Int32)) (fun v140 => (q_ob (I, X) 87 12 ((F_X12_step 87 v138 v139 v140 (I, X)).bind (fun x => match x with | (u141, M142) => (if u137 = u141 then J_L_law_1542_23 G 36 87 108 l M142 else none)))))))))))))))))))) := by
  obtain ⟨r, J, m1, m2, hv⟩ := m_step h (q_wS G (l + 1)) (q_wS G (l + 2)) (q_wS G (l + 3))
  exact yt_s h1 (yt_s h2 (yt_s h3 (yt_c (sh_36 h.1) m1 (yt_s h1 (yt_s h2 (yt_s h3 (yt_c (yt_sh m2) m2 (yt_eq (yt_J hv)))))))))
theorem yu_run {A : v_A} {I : p_I} {X : p_X} (h : v_V A I X) (h1 : yt_ok G (l + 1)) (h2 : yt_ok G (l + 2)) (h3 : yt_ok G (l + 3)) (h4 : yt_ok G (l + 4)) (h5 : yt_ok G (l + 5)) : yt_P l ((q_sc G (l + (1 : Int32)) (fun v143 => (q_sc G (l + (2 : Int32)) (fun v144 => (q_ob (I, X) 36 11 ((F_X11_run 36 v143 v144 (I, X)).bind (fun x => match x with | (u145, M146) => (q_sc G (l + (1 : Int32)) (fun v147 => (q_sc G (l + (2 : Int32)) (fun v148 => (q_ob M146 87 12 ((F_X12_run 87 v147 v148 M146).bind (fun x => match x with | (u149, M150) => (if u145 = u149 then J_L_law_1542_23 G 36 87 108 l M150 else none)))))))))))))))) := by
  obtain ⟨r, I1, J, X1, m1, m2, hv⟩ := m_run h (q_wS G (l + 1)) (q_wS G (l + 2))
  exact yt_s h1 (yt_s h2 (yt_c (sh_36 h.1) m1 (yt_s h1 (yt_s h2 (yt_c (yt_sh m2) m2 (yt_eq (yt_J hv)))))))
theorem yu_perform {A : v_A} {I : p_I} {X : p_X} (h : v_V A I X) (h1 : yt_ok G (l + 1)) (h2 : yt_ok G (l + 2)) (h3 : yt_ok G (l + 3)) (h4 : yt_ok G (l + 4)) (h5 : yt_ok G (l + 5)) : yt_P l ((q_sc G (l + (1 : Int32)) (fun v151 => (q_ob (I, X) 36 11 ((F_X11_perform 36 v151 (I, X)).bind (fun x => match x with | (u152, M153) => (q_sc G (l + (1 : Int32)) (fun v154 => (q_ob M153 87 12 ((F_X12_perform 87 v154 M153).bind (fun x => match x with | (u155, M156) => (if u152 = u155 then J_L_law_1542_23 G 36 87 108 l M156 else none)))))))))))) := by
  obtain ⟨r, I1, J, X1, D, m1, m2, hv⟩ := m_perform h (q_wS G (l + 1))
  exact yt_s h1 (yt_c (sh_36 h.1) m1 (yt_s h1 (yt_c (yt_sh m2) m2 (yt_eq (yt_J hv)))))
theorem yu_serves {A : v_A} {I : p_I} {X : p_X} (h : v_V A I X) (h1 : yt_ok G (l + 1)) (h2 : yt_ok G (l + 2)) (h3 : yt_ok G (l + 3)) (h4 : yt_ok G (l + 4)) (h5 : yt_ok G (l + 5)) : yt_P l ((q_sc G (l + (1 : Int32)) (fun v157 => (q_sc G (l + (2 : Int32)) (fun v158 => (q_ob (I, X) 36 11 ((F_X11_serves 36 v157 v158 (I, X)).bind (fun x => match x with | (u159, M160) => (q_sc G (l + (1 : Int32)) (fun v161 => (q_sc G (l + (2 : Int32)) (fun v162 => (q_ob M160 87 12 ((F_X12_serves_ 87 v161 v162 M160).bind (fun x => match x with | (u163, M164) => (if u159 = u163 then J_L_law_1542_23 G 36 87 108 l M164 else none)))))))))))))))) := by
  obtain ⟨r, I1, J, X1, m1, m2, hv⟩ := m_serves h (q_wS G (l + 1)) (q_wS G (l + 2))
  exact yt_s h1 (yt_s h2 (yt_c (sh_36 h.1) m1 (yt_s h1 (yt_s h2 (yt_c (yt_sh m2) m2 (yt_eq (yt_J hv)))))))
theorem yu_there {A : v_A} {I : p_I} {X : p_X} (h : v_V A I X) (h1 : yt_ok G (l + 1)) (h2 : yt_ok G (l + 2)) (h3 : yt_ok G (l + 3)) (h4 : yt_ok G (l + 4)) (h5 : yt_ok G (l + 5)) : yt_P l ((q_sc G (l + (1 : Int32)) (fun v165 => (q_ob (I, X) 36 11 ((F_X11_there 36 v165 (I, X)).bind (fun x => match x with | (u166, M167) => (q_sc G (l + (1 : Int32)) (fun v168 => (q_ob M167 87 12 ((F_X12_there 87 v168 M167).bind (fun x => match x with | (u169, M170) => (if u166 = u169 then J_L_law_1542_23 G 36 87 108 l M170 else none)))))))))))) := by
  obtain ⟨r, I1, J, X1, m1, m2, hv⟩ := m_there h (q_wS G (l + 1))
  exact yt_s h1 (yt_c (sh_36 h.1) m1 (yt_s h1 (yt_c (yt_sh m2) m2 (yt_eq (yt_J hv)))))
theorem yu_fed {A : v_A} {I : p_I} {X : p_X} (h : v_V A I X) (h1 : yt_ok G (l + 1)) (h2 : yt_ok G (l + 2)) (h3 : yt_ok G (l + 3)) (h4 : yt_ok G (l + 4)) (h5 : yt_ok G (l + 5)) : yt_P l ((q_sc G (l + (1 : Int32)) (fun v171 => (q_ob (I, X) 36 11 ((F_X11_fed 36 v171 (I, X)).bind (fun x => match x with | (u172, M173) => (q_sc G (l + (1 : Int32)) (fun v174 => (q_ob M173 87 12 ((F_X12_fed 87 v174 M173).bind (fun x => match x with | (u175, M176) => (if u172 = u175 then J_L_law_1542_23 G 36 87 108 l M176 else none)))))))))))) := by
  obtain ⟨r, I1, J, X1, m1, m2, hv⟩ := m_fed h (q_wS G (l + 1))
  exact yt_s h1 (yt_c (sh_36 h.1) m1 (yt_s h1 (yt_c (yt_sh m2) m2 (yt_eq (yt_J hv)))))
theorem yu_best {A : v_A} {I : p_I} {X : p_X} (h : v_V A I X) (h1 : yt_ok G (l + 1)) (h2 : yt_ok G (l + 2)) (h3 : yt_ok G (l + 3)) (h4 : yt_ok G (l + 4)) (h5 : yt_ok G (l + 5)) : yt_P l ((q_sc G (l + (1 : Int32)) (fun v177 => (q_sc G (l + (2 : Int32)) (fun v178 => (q_ob (I, X) 36 11 ((F_X11_best 36 v177 v178 (I, X)).bind (fun x => match x with | (u179, M180) => (q_sc G (l + (1 : Int32)) (fun v181 => (q_sc G (l + (2 : Int32)) (fun v182 => (q_ob M180 87 12 ((F_X12_best 87 v181 v182 M180).bind (fun x => match x with | (u183, M184) => (if u179 = u183 then J_L_law_1542_23 G 36 87 108 l M184 else none)))))))))))))))) := by
  obtain ⟨r, I1, J, X1, m1, m2, hv⟩ := m_best h (q_wS G (l + 1)) (q_wS G (l + 2))
  exact yt_s h1 (yt_s h2 (yt_c (sh_36 h.1) m1 (yt_s h1 (yt_s h2 (yt_c (yt_sh m2) m2 (yt_eq (yt_J hv)))))))
theorem yu_madeUp {A : v_A} {I : p_I} {X : p_X} (h : v_V A I X) (h1 : yt_ok G (l + 1)) (h2 : yt_ok G (l + 2)) (h3 : yt_ok G (l + 3)) (h4 : yt_ok G (l + 4)) (h5 : yt_ok G (l + 5)) : yt_P l ((q_sc G (l + (1 : Int32)) (fun v185 => (q_ob (I, X) 36 11 ((F_X11_madeUp 36 v185 (I, X)).bind (fun x => match x with | (u186, M187) => (q_sc G (l + (1 : Int32)) (fun v188 => (q_ob M187 87 12 ((F_X12_madeUp 87 v188 M187).bind (fun x => match x with | (u189, M190) => (if u186 = u189 then J_L_law_1542_23 G 36 87 108 l M190 else none)))))))))))) := by
  obtain ⟨r, I1, J, X1, m1, m2, hv⟩ := m_madeUp h (q_wS G (l + 1))
  exact yt_s h1 (yt_c (sh_36 h.1) m1 (yt_s h1 (yt_c (yt_sh m2) m2 (yt_eq (yt_J hv)))))
theorem yu_seen {A : v_A} {I : p_I} {X : p_X} (h : v_V A I X) (h1 : yt_ok G (l + 1)) (h2 : yt_ok G (l + 2)) (h3 : yt_ok G (l + 3)) (h4 : yt_ok G (l + 4)) (h5 : yt_ok G (l + 5)) : yt_P l ((q_sc G (l + (1 : Int32)) (fun v191 => (q_sc G (l + (2 : Int32)) (fun v192 => (q_sc G (l + (3 : Int32)) (fun v193 => (q_sc G (l + (4 : Int32)) (fun v194 => (q_sc G (l + (5 : Int32)) (fun v195 => (if v195 = 0 then J_L_law_1096_23 G 36 87 108 l 36 v191 v192 v193 v194 (0 : Int32) (I, X) else J_L_law_1096_23 G 36 87 108 l 36 v191 v192 v193 v194 (1 : Int32) (I, X))))))))))))) := by
  refine yt_s h1 (yt_s h2 (yt_s h3 (yt_s h4 (yt_s h5 ?_))))
  by_cases e : q_wS G (l + 5) = 0
  · refine yt_pos e ?_
    obtain ⟨r, I1, J, X1, m1, m2, hv⟩ := m_seen h (q_wS G (l + 1)) (q_wS G (l + 2)) (q_wS G (l + 3)) (q_wS G (l + 4)) 0
    exact yt_c (sh_36 h.1) m1 (yt_s h1 (yt_s h2 (yt_s h3 (yt_s h4 (yt_s h5 (yt_pos e (yt_c (yt_sh m2) m2 (yt_eq (yt_J hv)))))))))
  · refine yt_neg e ?_
    obtain ⟨r, I1, J, X1, m1, m2, hv⟩ := m_seen h (q_wS G (l + 1)) (q_wS G (l + 2)) (q_wS G (l + 3)) (q_wS G (l + 4)) 1
    exact yt_c (sh_36 h.1) m1 (yt_s h1 (yt_s h2 (yt_s h3 (yt_s h4 (yt_s h5 (yt_neg e (yt_c (yt_sh m2) m2 (yt_eq (yt_J hv)))))))))
theorem yu_likes {A : v_A} {I : p_I} {X : p_X} (h : v_V A I X) (h1 : yt_ok G (l + 1)) (h2 : yt_ok G (l + 2)) (h3 : yt_ok G (l + 3)) (h4 : yt_ok G (l + 4)) (h5 : yt_ok G (l + 5)) : yt_P l ((q_sc G (l + (1 : Int32)) (fun v205 => (q_ob (I, X) 36 11 ((F_X11_likes 36 v205 (I, X)).bind (fun x => match x with | (u206, M207) => (q_sc G (l + (1 : Int32)) (fun v208 => (q_ob M207 87 12 ((F_X12_likes 87 v208 M207).bind (fun x => match x with | (u209, M210) => (if u206 = u209 then J_L_law_1542_23 G 36 87 108 l M210 else none)))))))))))) := by
  obtain ⟨r, I1, J, X1, m1, m2, hv⟩ := m_likes h (q_wS G (l + 1))
  exact yt_s h1 (yt_c (sh_36 h.1) m1 (yt_s h1 (yt_c (yt_sh m2) m2 (yt_eq (yt_J hv)))))
theorem yu_probe {A : v_A} {I : p_I} {X : p_X} (h : v_V A I X) (h1 : yt_ok G (l + 1)) (h2 : yt_ok G (l + 2)) (h3 : yt_ok G (l + 3)) (h4 : yt_ok G (l + 4)) (h5 : yt_ok G (l + 5)) : yt_P l ((q_sc G (l + (1 : Int32)) (fun v211 => (q_sc G (l + (2 : Int32)) (fun v212 => (q_sc G (l + (3 : Int32)) (fun v213 => (q_ob (I, X) 36 11 ((F_X11_probe 36 v211 v212 v213 (I, X)).bind (fun x => match x with | (u214, M215) => (q_sc G (l + (1 : Int32)) (fun v216 => (q_sc G (l + (2 : Int32)) (fun v217 => (q_sc G (l + (3 : Int32)) (fun v218 => (q_ob M215 87 12 ((F_X12_probe 87 v216 v217 v218 M215).bind (fun x => match x with | (u219, M220) => (if u214 = u219 then J_L_law_1542_23 G 36 87 108 l M220 else none)))))))))))))))))))) := by
  obtain ⟨r, I1, J, X1, m1, m2, hv⟩ := m_probe h (q_wS G (l + 1)) (q_wS G (l + 2)) (q_wS G (l + 3))
  exact yt_s h1 (yt_s h2 (yt_s h3 (yt_c (sh_36 h.1) m1 (yt_s h1 (yt_s h2 (yt_s h3 (yt_c (yt_sh m2) m2 (yt_eq (yt_J hv)))))))))
theorem yu_leaves {A : v_A} {I : p_I} {X : p_X} (h : v_V A I X) (h1 : yt_ok G (l + 1)) (h2 : yt_ok G (l + 2)) (h3 : yt_ok G (l + 3)) (h4 : yt_ok G (l + 4)) (h5 : yt_ok G (l + 5)) : yt_P l ((q_sc G (l + (1 : Int32)) (fun v221 => (q_ob (I, X) 36 11 ((F_X11_leaves 36 v221 (I, X)).bind (fun x => match x with | (u222, M223) => (q_sc G (l + (1 : Int32)) (fun v224 => (q_ob M223 87 12 ((F_X12_leaves 87 v224 M223).bind (fun x => match x with | (u225, M226) => (if u222 = u225 then J_L_law_1542_23 G 36 87 108 l M226 else none)))))))))))) := by
  obtain ⟨r, I1, J, X1, m1, m2, hv⟩ := m_leaves h (q_wS G (l + 1))
  exact yt_s h1 (yt_c (sh_36 h.1) m1 (yt_s h1 (yt_c (yt_sh m2) m2 (yt_eq (yt_J hv)))))
theorem yu_game {A : v_A} {I : p_I} {X : p_X} (h : v_V A I X) (h1 : yt_ok G (l + 1)) (h2 : yt_ok G (l + 2)) (h3 : yt_ok G (l + 3)) (h4 : yt_ok G (l + 4)) (h5 : yt_ok G (l + 5)) : yt_P l ((q_sc G (l + (1 : Int32)) (fun v227 => (q_sc G (l + (2 : Int32)) (fun v228 => (q_sc G (l + (3 : Int32)) (fun v229 => (q_sc G (l + (4 : Int32)) (fun v230 => (q_sc G (l + (5 : Int32)) (fun v231 => (q_ob (I, X) 36 11 ((F_X11_game 36 v227 v228 v229 v230 v231 (I, X)).bind (fun x => match x with | (u232, M233) => (q_sc G (l + (1 : Int32)) (fun v234 => (q_sc G (l + (2 : Int32)) (fun v235 => (q_sc G (l + (3 : Int32)) (fun v236 => (q_sc G (l + (4 : Int32)) (fun v237 => (q_sc G (l + (5 : Int32)) (fun v238 => (q_ob M233 87 12 ((F_X12_game 87 v234 v235 v236 v237 v238 M233).bind (fun x => match x with | (u239, M240) => (if u232 = u239 then J_L_law_1542_23 G 36 87 108 l M240 else none)))))))))))))))))))))))))))) := by
  obtain ⟨r, I1, J, X1, m1, m2, hv⟩ := m_game h (q_wS G (l + 1)) (q_wS G (l + 2)) (q_wS G (l + 3)) (q_wS G (l + 4)) (q_wS G (l + 5))
  exact yt_s h1 (yt_s h2 (yt_s h3 (yt_s h4 (yt_s h5 (yt_c (sh_36 h.1) m1 (yt_s h1 (yt_s h2 (yt_s h3 (yt_s h4 (yt_s h5 (yt_c (yt_sh m2) m2 (yt_eq (yt_J hv)))))))))))))
theorem yu_rests {A : v_A} {I : p_I} {X : p_X} (h : v_V A I X) (h1 : yt_ok G (l + 1)) (h2 : yt_ok G (l + 2)) (h3 : yt_ok G (l + 3)) (h4 : yt_ok G (l + 4)) (h5 : yt_ok G (l + 5)) : yt_P l ((q_sc G (l + (1 : Int32)) (fun v241 => (q_sc G (l + (2 : Int32)) (fun v242 => (q_sc G (l + (3 : Int32)) (fun v243 => (q_ob (I, X) 36 11 ((F_X11_rests 36 v241 v242 v243 (I, X)).bind (fun x => match x with | (u244, M245) => (q_sc G (l + (1 : Int32)) (fun v246 => (q_sc G (l + (2 : Int32)) (fun v247 => (q_sc G (l + (3 : Int32)) (fun v248 => (q_ob M245 87 12 ((F_X12_rests 87 v246 v247 v248 M245).bind (fun x => match x with | (u249, M250) => (if u244 = u249 then J_L_law_1542_23 G 36 87 108 l M250 else none)))))))))))))))))))) := by
  obtain ⟨r, I1, J, X1, m1, m2, hv⟩ := m_rests h (q_wS G (l + 1)) (q_wS G (l + 2)) (q_wS G (l + 3))
  exact yt_s h1 (yt_s h2 (yt_s h3 (yt_c (sh_36 h.1) m1 (yt_s h1 (yt_s h2 (yt_s h3 (yt_c (yt_sh m2) m2 (yt_eq (yt_J hv)))))))))
theorem yu_odds {A : v_A} {I : p_I} {X : p_X} (h : v_V A I X) (h1 : yt_ok G (l + 1)) (h2 : yt_ok G (l + 2)) (h3 : yt_ok G (l + 3)) (h4 : yt_ok G (l + 4)) (h5 : yt_ok G (l + 5)) : yt_P l ((q_sc G (l + (1 : Int32)) (fun v251 => (q_sc G (l + (2 : Int32)) (fun v252 => (q_sc G (l + (3 : Int32)) (fun v253 => (q_ob (I, X) 36 11 ((F_X11_odds 36 v251 v252 v253 (I, X)).bind (fun x => match x with | (u254, M255) => (q_sc G (l + (1 : Int32)) (fun v256 => (q_sc G (l + (2 : Int32)) (fun v257 => (q_sc G (l + (3 : Int32)) (fun v258 => (q_ob M255 87 12 ((F_X12_odds 87 v256 v257 v258 M255).bind (fun x => match x with | (u259, M260) => (if u254 = u259 then J_L_law_1542_23 G 36 87 108 l M260 else none)))))))))))))))))))) := by
  obtain ⟨r, I1, J, X1, m1, m2, hv⟩ := m_odds h (q_wS G (l + 1)) (q_wS G (l + 2)) (q_wS G (l + 3))
  exact yt_s h1 (yt_s h2 (yt_s h3 (yt_c (sh_36 h.1) m1 (yt_s h1 (yt_s h2 (yt_s h3 (yt_c (yt_sh m2) m2 (yt_eq (yt_J hv)))))))))
theorem yu_all {A : v_A} {I : p_I} {X : p_X} (h : v_V A I X) (h1 : yt_ok G (l + 1)) (h2 : yt_ok G (l + 2)) (h3 : yt_ok G (l + 3)) (h4 : yt_ok G (l + 4)) (h5 : yt_ok G (l + 5)) : yt_P l ((q_sc G (l + (1 : Int32)) (fun v261 => (q_ob (I, X) 36 11 ((F_X11_all 36 v261 (I, X)).bind (fun x => match x with | (u262, M263) => (q_sc G (l + (1 : Int32)) (fun v264 => (q_ob M263 87 12 ((F_X12_all 87 v264 M263).bind (fun x => match x with | (u265, M266) => (if u262 = u265 then J_L_law_1542_23 G 36 87 108 l M266 else none)))))))))))) := by
  obtain ⟨r, I1, J, X1, m1, m2, hv⟩ := m_all h (q_wS G (l + 1))
  exact yt_s h1 (yt_c (sh_36 h.1) m1 (yt_s h1 (yt_c (yt_sh m2) m2 (yt_eq (yt_J hv)))))
theorem yu_kinds {A : v_A} {I : p_I} {X : p_X} (h : v_V A I X) (h1 : yt_ok G (l + 1)) (h2 : yt_ok G (l + 2)) (h3 : yt_ok G (l + 3)) (h4 : yt_ok G (l + 4)) (h5 : yt_ok G (l + 5)) : yt_P l ((q_sc G (l + (1 : Int32)) (fun v267 => (q_ob (I, X) 36 11 ((F_X11_kinds 36 v267 (I, X)).bind (fun u268 => (q_sc G (l + (1 : Int32)) (fun v269 => (q_ob (I, X) 87 12 ((F_X12_kinds 87 v269 (I, X)).bind (fun x => match x with | (u270, M271) => (if u268 = u270 then J_L_law_1542_23 G 36 87 108 l M271 else none)))))))))))) := by
  obtain ⟨r, J, m1, m2, hv⟩ := m_kinds h (q_wS G (l + 1))
  exact yt_s h1 (yt_c (sh_36 h.1) m1 (yt_s h1 (yt_c (yt_sh m2) m2 (yt_eq (yt_J hv)))))
theorem yu_staying {A : v_A} {I : p_I} {X : p_X} (h : v_V A I X) (h1 : yt_ok G (l + 1)) (h2 : yt_ok G (l + 2)) (h3 : yt_ok G (l + 3)) (h4 : yt_ok G (l + 4)) (h5 : yt_ok G (l + 5)) : yt_P l ((q_sc G (l + (1 : Int32)) (fun v272 => (q_ob (I, X) 36 11 ((F_X11_staying 36 v272 (I, X)).bind (fun u273 => (q_sc G (l + (1 : Int32)) (fun v274 => (q_ob (I, X) 87 12 ((F_X12_staying 87 v274 (I, X)).bind (fun x => match x with | (u275, M276) => (if u273 = u275 then J_L_law_1542_23 G 36 87 108 l M276 else none)))))))))))) := by
  obtain ⟨r, J, m1, m2, hv⟩ := m_staying h (q_wS G (l + 1))
  exact yt_s h1 (yt_c (sh_36 h.1) m1 (yt_s h1 (yt_c (yt_sh m2) m2 (yt_eq (yt_J hv)))))
theorem yu_image {A : v_A} {I : p_I} {X : p_X} (h : v_V A I X) (h1 : yt_ok G (l + 1)) (h2 : yt_ok G (l + 2)) (h3 : yt_ok G (l + 3)) (h4 : yt_ok G (l + 4)) (h5 : yt_ok G (l + 5)) : yt_P l ((q_ob (I, X) 36 11 ((F_X11_image 36 (I, X)).bind (fun x => match x with | (u277, M278) => (q_ob M278 87 12 ((F_X12_image 87 M278).bind (fun x => match x with | (u279, M280) => (if u277 = u279 then J_L_law_1542_23 G 36 87 108 l M280 else none)))))))) := by
  obtain ⟨r, I1, J, X1, m1, m2, hv⟩ := m_image h 
  exact yt_c (sh_36 h.1) m1 (yt_c (yt_sh m2) m2 (yt_eq (yt_J hv)))
theorem yu_back {A : v_A} {I : p_I} {X : p_X} (h : v_V A I X) (h1 : yt_ok G (l + 1)) (h2 : yt_ok G (l + 2)) (h3 : yt_ok G (l + 3)) (h4 : yt_ok G (l + 4)) (h5 : yt_ok G (l + 5)) : yt_P l ((q_ob (I, X) 36 11 ((F_X11_back 36 (I, X)).bind (fun x => match x with | (u281, M282) => (q_ob M282 87 12 ((F_X12_back 87 M282).bind (fun x => match x with | (u283, M284) => (if u281 = u283 then J_L_law_1542_23 G 36 87 108 l M284 else none)))))))) := by
  obtain ⟨r, I1, J, X1, D, m1, m2, hv⟩ := m_back h 
  exact yt_c (sh_36 h.1) m1 (yt_c (yt_sh m2) m2 (yt_eq (yt_J hv)))
theorem yu_count {A : v_A} {I : p_I} {X : p_X} (h : v_V A I X) (h1 : yt_ok G (l + 1)) (h2 : yt_ok G (l + 2)) (h3 : yt_ok G (l + 3)) (h4 : yt_ok G (l + 4)) (h5 : yt_ok G (l + 5)) : yt_P l ((q_sc G (l + (1 : Int32)) (fun v285 => (q_ob (I, X) 36 11 ((F_X11_count 36 v285 (I, X)).bind (fun u286 => (q_sc G (l + (1 : Int32)) (fun v287 => (q_ob (I, X) 87 12 ((F_X12_count 87 v287 (I, X)).bind (fun x => match x with | (u288, M289) => (if u286 = u288 then J_L_law_1542_23 G 36 87 108 l M289 else none)))))))))))) := by
  obtain ⟨r, J, m1, m2, hv⟩ := m_count h (q_wS G (l + 1))
  exact yt_s h1 (yt_c (sh_36 h.1) m1 (yt_s h1 (yt_c (yt_sh m2) m2 (yt_eq (yt_J hv)))))
end YT
theorem yt_at {G : q_G} (hn : G.2.1 99 ≤ 3072) (i k : Nat) (hi : i + 6 ≤ G.2.1 99) (hk : k < 6) : yt_ok G (Int32.ofNat i + Int32.ofNat k) := by
  unfold yt_ok
  rw [← Int32.ofNat_add, p_nat (i + k) (by omega)]
  rintro (e | e)
  · exact p_nn (i + k) (by omega) e
  · omega
theorem yt_turn {G : q_G} {A : v_A} {I : p_I} {X : p_X} (h : v_V A I X) (hn : G.2.1 99 ≤ 3072) (i : Nat) (hi : i + 6 ≤ G.2.1 99) : yt_P (Int32.ofNat i) (B_L_law_23 G 36 87 108 (Int32.ofNat i) (I, X)) := by
  have h0 : yt_ok G (Int32.ofNat i) := by
    have := yt_at hn i 0 hi (by decide)
    rwa [← Int32.ofNat_add] at this
  have h1 : yt_ok G (Int32.ofNat i + 1) := yt_at hn i 1 hi (by decide)
  have h2 : yt_ok G (Int32.ofNat i + 2) := yt_at hn i 2 hi (by decide)
  have h3 : yt_ok G (Int32.ofNat i + 3) := yt_at hn i 3 hi (by decide)
  have h4 : yt_ok G (Int32.ofNat i + 4) := yt_at hn i 4 hi (by decide)
  have h5 : yt_ok G (Int32.ofNat i + 5) := yt_at hn i 5 hi (by decide)
  have hz : ¬ (Int32.ofNat (G.2.1 99) - 6 < Int32.ofNat i) := by
    have e : Int32.ofNat (G.2.1 99) - 6 = Int32.ofNat (G.2.1 99 - 6) := p_osub (G.2.1 99) 6 (by omega)
    rw [e, p_lt _ _ (by omega) (by omega)]
    omega
  unfold B_L_law_23 q_scn
  refine yt_neg hz (yt_s h0 ?_)
  exact yt_ite (yu_feed h h1 h2 h3 h4 h5) (yt_ite (yu_end h h1 h2 h3 h4 h5) (yt_ite (yu_fault h h1 h2 h3 h4 h5) (yt_ite (yu_text h h1 h2 h3 h4 h5) (yt_ite (yu_rule h h1 h2 h3 h4 h5) (yt_ite (yu_dish h h1 h2 h3 h4 h5) (yt_ite (yu_guest h h1 h2 h3 h4 h5) (yt_ite (yu_law h h1 h2 h3 h4 h5) (yt_ite (yu_fever h h1 h2 h3 h4 h5) (yt_ite (yu_day h h1 h2 h3 h4 h5) (yt_ite (yu_choose h h1 h2 h3 h4 h5) (yt_ite (yu_ill h h1 h2 h3 h4 h5) (yt_ite (yu_makeUp h h1 h2 h3 h4 h5) (yt_ite (yu_stay h h1 h2 h3 h4 h5) (yt_ite (yu_sign h h1 h2 h3 h4 h5) (yt_ite (yu_years h h1 h2 h3 h4 h5) (yt_ite (yu_undo h h1 h2 h3 h4 h5) (yt_ite (yu_log h h1 h2 h3 h4 h5) (yt_ite (yu_step h h1 h2 h3 h4 h5) (yt_ite (yu_run h h1 h2 h3 h4 h5) (yt_ite (yu_perform h h1 h2 h3 h4 h5) (yt_ite (yu_serves h h1 h2 h3 h4 h5) (yt_ite (yu_there h h1 h2 h3 h4 h5) (yt_ite (yu_fed h h1 h2 h3 h4 h5) (yt_ite (yu_best h h1 h2 h3 h4 h5) (yt_ite (yu_madeUp h h1 h2 h3 h4 h5) (yt_ite (yu_seen h h1 h2 h3 h4 h5) (yt_ite (yu_likes h h1 h2 h3 h4 h5) (yt_ite (yu_probe h h1 h2 h3 h4 h5) (yt_ite (yu_leaves h h1 h2 h3 h4 h5) (yt_ite (yu_game h h1 h2 h3 h4 h5) (yt_ite (yu_rests h h1 h2 h3 h4 h5) (yt_ite (yu_odds h h1 h2 h3 h4 h5) (yt_ite (yu_all h h1 h2 h3 h4 h5) (yt_ite (yu_kinds h h1 h2 h3 h4 h5) (yt_ite (yu_staying h h1 h2 h3 h4 h5) (yt_ite (yu_image h h1 h2 h3 h4 h5) (yt_ite (yu_back h h1 h2 h3 h4 h5) (yt_ite (yu_count h h1 h2 h3 h4 h5) (yt_J h)))))))))))))))))))))))))))))))))))))))
theorem yt_out {G : q_G} {M : q_Mem} (hn : G.2.1 99 ≤ 3072) (i : Nat) (hi : 6 * i ≤ G.2.1 99) (h : ¬ 6 * i + 6 ≤ G.2.1 99) : B_L_law_23 G 36 87 108 (Int32.ofNat (6 * i)) M = some (.inr M) := by
  have hz : Int32.ofNat (G.2.1 99) - 6 < Int32.ofNat (6 * i) := by
    by_cases h6 : 6 ≤ G.2.1 99
    · have e : Int32.ofNat (G.2.1 99) - 6 = Int32.ofNat (G.2.1 99 - 6) := p_osub (G.2.1 99) 6 (by omega)
      rw [e, p_lt _ _ (by omega) (by omega)]
      omega
    · have hi0 : i = 0 := by omega
      subst hi0
      have hc : G.2.1 99 = 0 ∨ G.2.1 99 = 1 ∨ G.2.1 99 = 2 ∨ G.2.1 99 = 3 ∨ G.2.1 99 = 4 ∨ G.2.1 99 = 5 := by omega
      rcases hc with e | e | e | e | e | e <;> rw [e] <;> decide
  unfold B_L_law_23 q_scn
  exact if_pos hz
theorem yt_law {G : q_G} {B : q_Mem} (hn : G.2.1 99 ≤ 3072) (hB : B.2.2.2.length = 36) (hs : ∀ z ∈ p_shT, z.1 < 36 → B.2.2.2[z.1]? = some z.2) (hr : ∀ z ∈ p_rfT, z.1 < 36 → B.2.2.1 z.1 z.2.1 = z.2.2) (hS : ∀ k, k < 34 → B.1 k = t_stc k) : ∃ M', F_L_law G (yd_mk B ([], [], [], [])) = some (1, M') := by
  obtain ⟨A, hv⟩ := v_start hB hs hr hS
  obtain ⟨e0, e1, e2, e3, e4, n0, n1, n3⟩ := v_start2 hB
  obtain ⟨M', e5, -⟩ := p_lp (fun s : Int32 × q_Mem => B_L_law_23 G 36 87 108 s.1 s.2) (fun t s => s.1 = Int32.ofNat (6 * t) ∧ 6 * t ≤ G.2.1 99 ∧ ∃ A, v_V A s.2.1 s.2.2) (fun _ => True) 512 (by
    rintro t ⟨s1, I, X⟩ ht ⟨h1, h2, A', h3⟩
    simp only at h1 h2 h3
    subst h1
    by_cases h6 : 6 * t + 6 ≤ G.2.1 99
    · left
      obtain ⟨M', e, hA⟩ := yt_turn h3 hn (6 * t) h6
      refine ⟨_, e, by omega, ?_, by omega, hA⟩
      show Int32.ofNat (6 * t) + 6 = Int32.ofNat (6 * (t + 1))
      rw [show 6 * (t + 1) = 6 * t + 6 by omega, Int32.ofNat_add]
      rfl
    · exact .inr ⟨_, yt_out hn t h2 h6, trivial⟩) 512 0 q_fu ((0 : Int32), yd_mk B yd_d4) rfl (by decide) ⟨rfl, by omega, A, hv⟩
  refine ⟨M', ?_⟩
  unfold F_L_law q_nO q_nA
  rw [n0, e0]
  simp only [e1, Option.bind_some]
  rw [n1, e2]
  simp only [e3, Option.bind_some]
  rw [if_neg (by decide)]
  simp only [show (1 : Int32).toNatClampNeg = 1 from rfl]
  rw [n3, e4]
  simp only [e5, Option.bind_some]
  rfl
