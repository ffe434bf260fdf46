/-! the constructors, run over lists (laid by wip/whole/gen98v.py) -/
abbrev yd_M : Type := List q_Sh × List (Nat × Nat × Int32) × List (Nat × Nat × Int64) × List (Nat × Nat × Nat)
def yd_lk {α : Type} (z' : α) : List (Nat × Nat × α) → Nat → Nat → α
  | [], _, _ => z'
  | y' :: t', k', j' => if y'.1 = k' ∧ y'.2.1 = j' then y'.2.2 else yd_lk z' t' k' j'
def yd_fn {α : Type} (z' : α) (b' : Nat → Nat → α) (l' : List (Nat × Nat × α)) : Nat → Nat → α := fun k' => if k' < 36 then b' k' else fun j' => yd_lk z' l' k' j'
def yd_mk (B' : q_Mem) (d' : yd_M) : q_Mem := (yd_fn 0 B'.1 d'.2.1, yd_fn 0 B'.2.1 d'.2.2.1, yd_fn 0 B'.2.2.1 d'.2.2.2, B'.2.2.2 ++ d'.1)
def yd_sh (d' : yd_M) (k' : Nat) : Option q_Sh := if k' < 36 then none else d'.1[k' - 36]?
def yd_cut {α : Type} (k' : Nat) (l' : List (Nat × Nat × α)) : List (Nat × Nat × α) := l'.filter (fun y' => !(y'.1 == k'))
def yd_push (d' : yd_M) (h' : q_Sh) : yd_M := (d'.1 ++ [h'], yd_cut (36 + d'.1.length) d'.2.1, yd_cut (36 + d'.1.length) d'.2.2.1, yd_cut (36 + d'.1.length) d'.2.2.2)
section YA'
variable {β : Type}
def yd_pR (d' : yd_M) (k' ci' j' c' : Nat) (f' : yd_M → Option β) : Option β := if yd_sh d' k' = some (.inl ci') then f' (d'.1, d'.2.1, d'.2.2.1, (k', j', c') :: d'.2.2.2) else none
def yd_pI (d' : yd_M) (k' ci' j' : Nat) (v' : Int32) (f' : yd_M → Option β) : Option β := if yd_sh d' k' = some (.inl ci') then f' (d'.1, (k', j', v') :: d'.2.1, d'.2.2) else none
def yd_pZ (d' : yd_M) (k' ci' j' : Nat) (v' : Int32) (f' : yd_M → Option β) : Option β := if yd_sh d' k' = some (.inl ci') ∧ (v' = 0 ∨ v' = 1) then f' (d'.1, (k', j', v') :: d'.2.1, d'.2.2) else none
def yd_pL (d' : yd_M) (k' ci' j' : Nat) (v' : Int64) (f' : yd_M → Option β) : Option β := if yd_sh d' k' = some (.inl ci') then f' (d'.1, d'.2.1, (k', j', v') :: d'.2.2.1, d'.2.2.2) else none
def yd_gR (d' : yd_M) (k' ci' j' : Nat) (f' : Nat → Option β) : Option β := if yd_sh d' k' = some (.inl ci') then f' (yd_lk 0 d'.2.2.2 k' j') else none
def yd_ln (d' : yd_M) (t' a' : Nat) : Nat := match yd_sh d' a' with
  | some (.inr (u', n')) => if u' = t' then n' else 0
  | _ => 0
def yd_tI (d' : yd_M) (a' : Nat) (i' v' : Int32) (f' : yd_M → Option β) : Option β := if i' < 0 ∨ yd_ln d' 0 a' ≤ i'.toNatClampNeg then none else f' (d'.1, (a', i'.toNatClampNeg, v') :: d'.2.1, d'.2.2)
def yd_tR (d' : yd_M) (t' a' : Nat) (i' : Int32) (ci' v' : Nat) (f' : yd_M → Option β) : Option β := if (i' < 0 ∨ yd_ln d' t' a' ≤ i'.toNatClampNeg) ∨ ¬ yd_sh d' v' = some (.inl ci') then none else f' (d'.1, d'.2.1, d'.2.2.1, (a', i'.toNatClampNeg, v' + 1) :: d'.2.2.2)
def yd_nA (d' : yd_M) (t' : Nat) (n' : Int32) (b' : Nat) (f' : Nat → yd_M → Option β) : Option β := if n' < 0 ∨ b' < n'.toNatClampNeg then none else f' (36 + d'.1.length) (yd_push d' (.inr (t', n'.toNatClampNeg)))
def yd_nO (d' : yd_M) (ci' : Nat) (f' : Nat → yd_M → Option β) : Option β := f' (36 + d'.1.length) (yd_push d' (.inl ci'))
end YA'

def yd_X9_init (l0' : Nat) (M' : yd_M) : Option (Unit × yd_M) := (yd_nA M' 1 (240 : Int32) 240 (fun k1' M2' => (yd_pR M2' l0' 9 0 (k1' + 1) (fun M3' => (yd_pI M3' l0' 9 1 (0 : Int32) (fun M4' => (yd_pI M4' l0' 9 2 (0 : Int32) (fun M5' => (yd_pI M5' l0' 9 3 (0 : Int32) (fun M6' => some ((), M6')))))))))))
def yd_X3_init (l0' : Nat) (M' : yd_M) : Option (Unit × yd_M) := (yd_nA M' 0 (3 : Int32) 3 (fun k1' M2' => (yd_pR M2' l0' 3 0 (k1' + 1) (fun M3' => (yd_nA M3' 0 (15 : Int32) 15 (fun k4' M5' => (yd_pR M5' l0' 3 1 (k4' + 1) (fun M6' => (yd_nA M6' 0 (24 : Int32) 24 (fun k7' M8' => (yd_pR M8' l0' 3 2 (k7' + 1) (fun M9' => (yd_nA M9' 0 (6 : Int32) 6 (fun k10' M11' => (yd_pR M11' l0' 3 3 (k10' + 1) (fun M12' => (yd_pI M12' l0' 3 4 (0 : Int32) (fun M13' => (yd_pI M13' l0' 3 5 (0 : Int32) (fun M14' => (yd_pZ M14' l0' 3 6 (0 : Int32) (fun M15' => some ((), M15')))))))))))))))))))))))
def yd_X5_init (l0' : Nat) (l1' : Nat) (M' : yd_M) : Option (Unit × yd_M) := (yd_nA M' 0 (240 : Int32) 240 (fun k1' M2' => (yd_pR M2' l0' 5 1 (k1' + 1) (fun M3' => (yd_pI M3' l0' 5 2 (0 : Int32) (fun M4' => (yd_pR M4' l0' 5 0 (l1' + 1) (fun M5' => some ((), M5')))))))))
def yd_X8_init (l0' : Nat) (M' : yd_M) : Option (Unit × yd_M) := (yd_nA M' 0 (31 : Int32) 31 (fun k1' M2' => (yd_pR M2' l0' 8 0 (k1' + 1) (fun M3' => (yd_gR M3' l0' 8 0 (fun c4' => q_nn c4' (fun r5' => (yd_tI M3' r5' (3 : Int32) (-1 : Int32) (fun M6' => some ((), M6'))))))))))
def yd_X6_init (l0' : Nat) (M' : yd_M) : Option (Unit × yd_M) := (yd_nA M' 0 (1240 : Int32) 1240 (fun k1' M2' => (yd_pR M2' l0' 6 0 (k1' + 1) (fun M3' => (yd_nA M3' 0 (384 : Int32) 384 (fun k4' M5' => (yd_pR M5' l0' 6 1 (k4' + 1) (fun M6' => (yd_nA M6' 0 (384 : Int32) 384 (fun k7' M8' => (yd_pR M8' l0' 6 2 (k7' + 1) (fun M9' => (yd_nO M9' 8 (fun k10' M11' => ((yd_X8_init k10' M11').bind (fun x' => match x' with | (_, M13') => (yd_pR M13' l0' 6 3 (k10' + 1) (fun M14' => (yd_pZ M14' l0' 6 4 (0 : Int32) (fun M15' => (yd_pI M15' l0' 6 5 (0 : Int32) (fun M16' => (yd_pI M16' l0' 6 6 (0 : Int32) (fun M17' => some ((), M17')))))))))))))))))))))))))
def yd_X1_init (l0' : Nat) (l1' : Nat) (M' : yd_M) : Option (Unit × yd_M) := (yd_nA M' 0 (6 : Int32) 6 (fun k1' M2' => (yd_pR M2' l0' 1 1 (k1' + 1) (fun M3' => (yd_nA M3' 0 (6 : Int32) 6 (fun k4' M5' => (yd_pR M5' l0' 1 2 (k4' + 1) (fun M6' => (yd_pR M6' l0' 1 3 0 (fun M7' => (yd_pI M7' l0' 1 4 (0 : Int32) (fun M8' => (yd_pI M8' l0' 1 5 (-1 : Int32) (fun M9' => (yd_pI M9' l0' 1 6 (0 : Int32) (fun M10' => (yd_pI M10' l0' 1 7 (-1 : Int32) (fun M11' => (yd_pI M11' l0' 1 8 (0 : Int32) (fun M12' => (yd_pI M12' l0' 1 9 (0 : Int32) (fun M13' => (yd_pI M13' l0' 1 10 (0 : Int32) (fun M14' => (yd_pI M14' l0' 1 11 (0 : Int32) (fun M15' => (yd_pR M15' l0' 1 0 (l1' + 1) (fun M16' => some ((), M16')))))))))))))))))))))))))))))
def yd_X0_init (l0' : Nat) (l1' : Nat) (l2' : Nat) (M' : yd_M) : Option (Unit × yd_M) := (yd_pR M' l0' 0 0 (l1' + 1) (fun M1' => (yd_pR M1' l0' 0 1 (l2' + 1) (fun M2' => some ((), M2')))))
def yd_X2_init (l0' : Nat) (l1' : Nat) (l2' : Nat) (l3' : Nat) (M' : yd_M) : Option (Unit × yd_M) := (yd_nO M' 8 (fun k1' M2' => ((yd_X8_init k1' M2').bind (fun x' => match x' with | (_, M4') => (yd_pR M4' l0' 2 3 (k1' + 1) (fun M5' => (yd_nA M5' 5 (5 : Int32) 5 (fun k6' M7' => (yd_pR M7' l0' 2 4 (k6' + 1) (fun M8' => (yd_nA M8' 0 (16 : Int32) 16 (fun k9' M10' => (yd_pR M10' l0' 2 5 (k9' + 1) (fun M11' => (yd_nA M11' 0 (16 : Int32) 16 (fun k12' M13' => (yd_pR M13' l0' 2 6 (k12' + 1) (fun M14' => (yd_pI M14' l0' 2 7 (0 : Int32) (fun M15' => (yd_pI M15' l0' 2 8 (0 : Int32) (fun M16' => (yd_pI M16' l0' 2 9 (0 : Int32) (fun M17' => (yd_pI M17' l0' 2 10 (0 : Int32) (fun M18' => (yd_pI M18' l0' 2 11 (0 : Int32) (fun M19' => (yd_pR M19' l0' 2 0 (l1' + 1) (fun M20' => (yd_pR M20' l0' 2 1 (l2' + 1) (fun M21' => (yd_pR M21' l0' 2 2 (l3' + 1) (fun M22' => (if (0 : Int32) < (5 : Int32) then (yd_gR M22' l0' 2 4 (fun c23' => q_nn c23' (fun r24' => (yd_nO M22' 8 (fun k25' M26' => ((yd_X8_init k25' M26').bind (fun x' => match x' with | (_, M28') => (yd_tR M28' 5 r24' (0 : Int32) 8 k25' (fun M29' => (if ((0 : Int32) + (1 : Int32)) < (5 : Int32) then (yd_gR M29' l0' 2 4 (fun c30' => q_nn c30' (fun r31' => (yd_nO M29' 8 (fun k32' M33' => ((yd_X8_init k32' M33').bind (fun x' => match x' with | (_, M35') => (yd_tR M35' 5 r31' ((0 : Int32) + (1 : Int32)) 8 k32' (fun M36' => (if (((0 : Int32) + (1 : Int32)) + (1 : Int32)) < (5 : Int32) then (yd_gR M36' l0' 2 4 (fun c37' => q_nn c37' (fun r38' => (yd_nO M36' 8 (fun k39' M40' => ((yd_X8_init k39' M40').bind (fun x' => match x' with | (_, M42') => (yd_tR M42' 5 r38' (((0 : Int32) + (1 : Int32)) + (1 : Int32)) 8 k39' (fun M43' => (if ((((0 : Int32) + (1 : Int32)) + (1 : Int32)) + (1 : Int32)) < (5 : Int32) then (yd_gR M43' l0' 2 4 (fun c44' => q_nn c44' (fun r45' => (yd_nO M43' 8 (fun k46' M47' => ((yd_X8_init k46' M47').bind (fun x' => match x' with | (_, M49') => (yd_tR M49' 5 r45' ((((0 : Int32) + (1 : Int32)) + (1 : Int32)) + (1 : Int32)) 8 k46' (fun M50' => (if (((((0 : Int32) + (1 : Int32)) + (1 : Int32)) + (1 : Int32)) + (1 : Int32)) < (5 : Int32) then (yd_gR M50' l0' 2 4 (fun c51' => q_nn c51' (fun r52' => (yd_nO M50' 8 (fun k53' M54' => ((yd_X8_init k53' M54').bind (fun x' => match x' with | (_, M56') => (yd_tR M56' 5 r52' (((((0 : Int32) + (1 : Int32)) + (1 : Int32)) + (1 : Int32)) + (1 : Int32)) 8 k53' (fun M57' => (if ((((((0 : Int32) + (1 : Int32)) + (1 : Int32)) + (1 : Int32)) + (1 : Int32)) + (1 : Int32)) < (5 : Int32) then none else some ((), M57'))))))))))) else none)))))))))) else none)))))))))) else none)))))))))) else none)))))))))) else none)))))))))))))))))))))))))))))))))))
def yd_X7_init (l0' : Nat) (l1' : Nat) (l2' : Nat) (M' : yd_M) : Option (Unit × yd_M) := (yd_nA M' 0 (50 : Int32) 50 (fun k1' M2' => (yd_pR M2' l0' 7 2 (k1' + 1) (fun M3' => (yd_pI M3' l0' 7 3 (0 : Int32) (fun M4' => (yd_pR M4' l0' 7 0 (l1' + 1) (fun M5' => (yd_pR M5' l0' 7 1 (l2' + 1) (fun M6' => some ((), M6')))))))))))
def yd_X10_init (l0' : Nat) (M' : yd_M) : Option (Unit × yd_M) := (yd_nA M' 0 (48 : Int32) 48 (fun k1' M2' => (yd_pR M2' l0' 10 0 (k1' + 1) (fun M3' => (yd_pI M3' l0' 10 1 (0 : Int32) (fun M4' => some ((), M4')))))))
def yd_X11_init (l0' : Nat) (M' : yd_M) : Option (Unit × yd_M) := (yd_nO M' 9 (fun k1' M2' => ((yd_X9_init k1' M2').bind (fun x' => match x' with | (_, M4') => (yd_pR M4' l0' 11 0 (k1' + 1) (fun M5' => (yd_nO M5' 3 (fun k6' M7' => ((yd_X3_init k6' M7').bind (fun x' => match x' with | (_, M9') => (yd_pR M9' l0' 11 1 (k6' + 1) (fun M10' => (yd_nO M10' 3 (fun k11' M12' => ((yd_X3_init k11' M12').bind (fun x' => match x' with | (_, M14') => (yd_pR M14' l0' 11 2 (k11' + 1) (fun M15' => (yd_nO M15' 5 (fun k16' M17' => (yd_gR M17' l0' 11 0 (fun c18' => q_nn c18' (fun r19' => ((yd_X5_init k16' r19' M17').bind (fun x' => match x' with | (_, M21') => (yd_pR M21' l0' 11 3 (k16' + 1) (fun M22' => (yd_nA M22' 3 (4 : Int32) 4 (fun k23' M24' => (yd_pR M24' l0' 11 4 (k23' + 1) (fun M25' => (yd_nA M25' 4 (4 : Int32) 4 (fun k26' M27' => (yd_pR M27' l0' 11 5 (k26' + 1) (fun M28' => (yd_nO M28' 8 (fun k29' M30' => ((yd_X8_init k29' M30').bind (fun x' => match x' with | (_, M32') => (yd_pR M32' l0' 11 6 (k29' + 1) (fun M33' => (yd_nO M33' 8 (fun k34' M35' => ((yd_X8_init k34' M35').bind (fun x' => match x' with | (_, M37') => (yd_pR M37' l0' 11 7 (k34' + 1) (fun M38' => (yd_nO M38' 6 (fun k39' M40' => ((yd_X6_init k39' M40').bind (fun x' => match x' with | (_, M42') => (yd_pR M42' l0' 11 8 (k39' + 1) (fun M43' => (yd_nO M43' 1 (fun k44' M45' => (yd_gR M45' l0' 11 1 (fun c46' => q_nn c46' (fun r47' => ((yd_X1_init k44' r47' M45').bind (fun x' => match x' with | (_, M49') => (yd_pR M49' l0' 11 9 (k44' + 1) (fun M50' => (yd_nO M50' 0 (fun k51' M52' => (yd_gR M52' l0' 11 1 (fun c53' => q_nn c53' (fun r54' => (yd_gR M52' l0' 11 9 (fun c55' => q_nn c55' (fun r56' => ((yd_X0_init k51' r54' r56' M52').bind (fun x' => match x' with | (_, M58') => (yd_pR M58' l0' 11 10 (k51' + 1) (fun M59' => (yd_nO M59' 2 (fun k60' M61' => (yd_gR M61' l0' 11 1 (fun c62' => q_nn c62' (fun r63' => (yd_gR M61' l0' 11 9 (fun c64' => q_nn c64' (fun r65' => (yd_gR M61' l0' 11 10 (fun c66' => q_nn c66' (fun r67' => ((yd_X2_init k60' r63' r65' r67' M61').bind (fun x' => match x' with | (_, M69') => (yd_pR M69' l0' 11 11 (k60' + 1) (fun M70' => (yd_nO M70' 7 (fun k71' M72' => (yd_gR M72' l0' 11 1 (fun c73' => q_nn c73' (fun r74' => (yd_gR M72' l0' 11 9 (fun c75' => q_nn c75' (fun r76' => ((yd_X7_init k71' r74' r76' M72').bind (fun x' => match x' with | (_, M78') => (yd_pR M78' l0' 11 12 (k71' + 1) (fun M79' => (yd_nO M79' 10 (fun k80' M81' => ((yd_X10_init k80' M81').bind (fun x' => match x' with | (_, M83') => (yd_pR M83' l0' 11 13 (k80' + 1) (fun M84' => (yd_pI M84' l0' 11 14 (0 : Int32) (fun M85' => (yd_pI M85' l0' 11 15 (0 : Int32) (fun M86' => (yd_pI M86' l0' 11 16 (-1 : Int32) (fun M87' => (yd_pI M87' l0' 11 17 (1 : Int32) (fun M88' => (yd_pZ M88' l0' 11 18 (0 : Int32) (fun M89' => (yd_pL M89' l0' 11 19 (0 : Int64) (fun M90' => some ((), M90'))))))))))))))))))))))))))))))))))))))))))))))))))))))))))))))))))))))))))))))))))))))))))))))))))))))))))))))))))))))))
def yd_X12_init (l0' : Nat) (M' : yd_M) : Option (Unit × yd_M) := (yd_nA M' 1 (240 : Int32) 240 (fun k1' M2' => (yd_pR M2' l0' 12 1 (k1' + 1) (fun M3' => (yd_nA M3' 1 (960 : Int32) 960 (fun k4' M5' => (yd_pR M5' l0' 12 2 (k4' + 1) (fun M6' => (yd_nA M6' 0 (4 : Int32) 4 (fun k7' M8' => (yd_pR M8' l0' 12 3 (k7' + 1) (fun M9' => (yd_nA M9' 0 (128 : Int32) 128 (fun k10' M11' => (yd_pR M11' l0' 12 4 (k10' + 1) (fun M12' => (yd_gR M12' l0' 12 1 (fun c13' => q_nn c13' (fun r14' => (yd_pR M12' l0' 12 5 (r14' + 1) (fun M15' => (yd_pR M15' l0' 12 15 (30 + 1) (fun M16' => (yd_pR M16' l0' 12 16 (32 + 1) (fun M17' => (yd_nA M17' 0 (3 : Int32) 3 (fun k18' M19' => (yd_pR M19' l0' 12 18 (k18' + 1) (fun M20' => (yd_nA M20' 0 (3 : Int32) 3 (fun k21' M22' => (yd_pR M22' l0' 12 19 (k21' + 1) (fun M23' => (yd_nA M23' 0 (15 : Int32) 15 (fun k24' M25' => (yd_pR M25' l0' 12 20 (k24' + 1) (fun M26' => (yd_nA M26' 0 (15 : Int32) 15 (fun k27' M28' => (yd_pR M28' l0' 12 21 (k27' + 1) (fun M29' => (yd_nA M29' 0 (24 : Int32) 24 (fun k30' M31' => (yd_pR M31' l0' 12 22 (k30' + 1) (fun M32' => (yd_nA M32' 0 (24 : Int32) 24 (fun k33' M34' => (yd_pR M34' l0' 12 23 (k33' + 1) (fun M35' => (yd_nA M35' 0 (240 : Int32) 240 (fun k36' M37' => (yd_pR M37' l0' 12 24 (k36' + 1) (fun M38' => (yd_nA M38' 0 (5 : Int32) 5 (fun k39' M40' => (yd_pR M40' l0' 12 25 (k39' + 1) (fun M41' => (yd_nA M41' 0 (217 : Int32) 217 (fun k42' M43' => (yd_pR M43' l0' 12 32 (k42' + 1) (fun M44' => (yd_nA M44' 0 (217 : Int32) 217 (fun k45' M46' => (yd_pR M46' l0' 12 33 (k45' + 1) (fun M47' => (yd_pI M47' l0' 12 34 (-1 : Int32) (fun M48' => (yd_pI M48' l0' 12 35 (1 : Int32) (fun M49' => (yd_nA M49' 0 (6 : Int32) 6 (fun k50' M51' => (yd_pR M51' l0' 12 36 (k50' + 1) (fun M52' => (yd_nA M52' 0 (8680 : Int32) 8680 (fun k53' M54' => (yd_pR M54' l0' 12 41 (k53' + 1) (fun M55' => (yd_nA M55' 0 (50 : Int32) 50 (fun k56' M57' => (yd_pR M57' l0' 12 44 (k56' + 1) (fun M58' => (yd_nA M58' 0 (32 : Int32) 32 (fun k59' M60' => (yd_pR M60' l0' 12 46 (k59' + 1) (fun M61' => (yd_nA M61' 0 (185 : Int32) 185 (fun k62' M63' => (yd_pR M63' l0' 12 47 (k62' + 1) (fun M64' => (yd_nA M64' 0 (217 : Int32) 217 (fun k65' M66' => (yd_pR M66' l0' 12 48 (k65' + 1) (fun M67' => some ((), M67'))))))))))))))))))))))))))))))))))))))))))))))))))))))))))))))))))))))))))))))))))))))))))))))
section YB'
variable {B' : q_Mem} {d' : yd_M}
theorem yd_lkc {α : Type} (z' : α) (y' : Nat × Nat × α) (t' : List (Nat × Nat × α)) (k' j' : Nat) : yd_lk z' (y' :: t') k' j' = if y'.1 = k' ∧ y'.2.1 = j' then y'.2.2 else yd_lk z' t' k' j' := rfl
theorem yd_fu {α : Type} (z' : α) (b' : Nat → Nat → α) (l' : List (Nat × Nat × α)) (k' j' : Nat) (v' : α) (hk' : 36 ≤ k') : q_u2 (yd_fn z' b' l') k' j' v' = yd_fn z' b' ((k', j', v') :: l') := by
  funext a' c'
  unfold q_u2 va_up yd_fn
  by_cases h1' : a' = k'
  · subst h1'
    have h36' : ¬ a' < 36 := by omega
    simp only [↓reduceIte, h36']
    rw [yd_lkc]
    by_cases h2' : c' = j'
    · subst h2'
      rw [if_pos rfl, if_pos ⟨rfl, rfl⟩]
    · rw [if_neg h2', if_neg (fun e' => h2' e'.2.symm)]
  · simp only [h1', ↓reduceIte]
    by_cases h36' : a' < 36
    · simp only [h36', ↓reduceIte]
    · simp only [h36', ↓reduceIte]
      rw [yd_lkc, if_neg (fun e' => h1' e'.1.symm)]
theorem yd_cutL {α : Type} (z' : α) (k' : Nat) (l' : List (Nat × Nat × α)) (a' c' : Nat) : yd_lk z' (yd_cut k' l') a' c' = if a' = k' then z' else yd_lk z' l' a' c' := by
  induction l' with
  | nil =>
    show z' = if a' = k' then z' else z'
    split <;> rfl
  | cons y' t' ih' =>
    unfold yd_cut at ih' ⊢
    by_cases h' : y'.1 = k'
    · have e' : List.filter (fun y' => !(y'.1 == k')) (y' :: t') = List.filter (fun y' => !(y'.1 == k')) t' := List.filter_cons_of_neg (by simp [h'])
      rw [e', ih', yd_lkc]
      by_cases ha' : a' = k'
      · rw [if_pos ha', if_pos ha']
      · rw [if_neg ha', if_neg ha', if_neg (fun e' => ha' (by rw [← e'.1]; exact h'))]
    · have e' : List.filter (fun y' => !(y'.1 == k')) (y' :: t') = y' :: List.filter (fun y' => !(y'.1 == k')) t' := List.filter_cons_of_pos (by simp [h'])
      rw [e', yd_lkc, ih', yd_lkc]
      by_cases ha' : a' = k'
      · rw [if_pos ha', if_pos ha', if_neg (fun e' => h' (by rw [e'.1]; exact ha'))]
      · rw [if_neg ha', if_neg ha']
theorem yd_fc {α : Type} (z' : α) (b' : Nat → Nat → α) (l' : List (Nat × Nat × α)) (k' : Nat) (hk' : 36 ≤ k') : va_up (yd_fn z' b' l') k' (fun _ => z') = yd_fn z' b' (yd_cut k' l') := by
  funext a' c'
  unfold va_up yd_fn
  by_cases h1' : a' = k'
  · subst h1'
    have h36' : ¬ a' < 36 := by omega
    simp only [↓reduceIte, h36']
    rw [yd_cutL]; simp
  · simp only [h1', ↓reduceIte]
    by_cases h36' : a' < 36
    · simp only [h36', ↓reduceIte]
    · simp only [h36', ↓reduceIte]
      rw [yd_cutL]; simp [h1']
theorem yd_len (hB' : B'.2.2.2.length = 36) : (yd_mk B' d').2.2.2.length = 36 + d'.1.length := by
  show (B'.2.2.2 ++ d'.1).length = _
  rw [List.length_append, hB']
theorem yd_pushE (hB' : B'.2.2.2.length = 36) (h' : q_Sh) : q_push (yd_mk B' d') h' = yd_mk B' (yd_push d' h') := by
  unfold q_push
  rw [yd_len hB']
  unfold yd_mk yd_push
  simp only
  rw [yd_fc _ _ _ _ (by omega), yd_fc _ _ _ _ (by omega), yd_fc _ _ _ _ (by omega), List.append_assoc]
theorem yd_shE (hB' : B'.2.2.2.length = 36) {k' : Nat} {s' : q_Sh} (h' : yd_sh d' k' = some s') : (yd_mk B' d').2.2.2[k']? = some s' ∧ q_NS ≤ k' := by
  unfold yd_sh at h'
  split at h'
  · cases h'
  · refine ⟨?_, by show 36 ≤ k'; omega⟩
    show (B'.2.2.2 ++ d'.1)[k']? = _
    rw [List.getElem?_append_right (by omega), hB']
    exact h'
theorem yd_lnE (hB' : B'.2.2.2.length = 36) {t' a' m' : Nat} (h' : ¬ yd_ln d' t' a' ≤ m') : ¬ q_ln (yd_mk B' d') t' a' ≤ m' ∧ q_NS ≤ a' := by
  unfold yd_ln at h'
  split at h'
  · rename_i u' n' hs'
    obtain ⟨h1', h2'⟩ := yd_shE hB' hs'
    unfold q_ln
    rw [h1']
    exact ⟨h', h2'⟩
  · omega
/-- what a run over lists gives, the run over the memory gives -/
def yd_le (B' : q_Mem) {α : Type} (o' : Option (α × yd_M)) (o'' : Option (α × q_Mem)) : Prop := ∀ a' d', o' = some (a', d') → o'' = some (a', yd_mk B' d')
variable {α : Type}
theorem yl_some (a' : α) : yd_le B' (some (a', d')) (some (a', yd_mk B' d')) := fun a'' d'' h' => by cases h'; rfl
theorem yl_none (o'' : Option (α × q_Mem)) : yd_le B' none o'' := fun a'' d'' h' => by cases h'
theorem yl_ite {c' : Prop} [Decidable c'] {o1' o2' : Option (α × yd_M)} {p1' p2' : Option (α × q_Mem)} (h1' : yd_le B' o1' p1') (h2' : yd_le B' o2' p2') : yd_le B' (if c' then o1' else o2') (if c' then p1' else p2') := by
  by_cases h' : c'
  · rw [if_pos h', if_pos h']; exact h1'
  · rw [if_neg h', if_neg h']; exact h2'
theorem yl_nn {c' : Nat} {f' : Nat → Option (α × yd_M)} {f'' : Nat → Option (α × q_Mem)} (h' : ∀ r', yd_le B' (f' r') (f'' r')) : yd_le B' (q_nn c' f') (q_nn c' f'') := by
  cases c' with
  | zero => exact yl_none _
  | succ r' => exact h' r'
theorem yl_bd {o' : Option (Unit × yd_M)} {o'' : Option (Unit × q_Mem)} {g' : Unit × yd_M → Option (α × yd_M)} {g'' : Unit × q_Mem → Option (α × q_Mem)} (h' : yd_le B' o' o'') (hg' : ∀ d', yd_le B' (g' ((), d')) (g'' ((), yd_mk B' d'))) : yd_le B' (o'.bind g') (o''.bind g'') := by
  intro a' d'' e'
  cases ho' : o' with
  | none => rw [ho'] at e'; cases e'
  | some z' =>
    obtain ⟨u', d'⟩ := z'
    rw [ho'] at e'
    rw [h' u' d' ho']
    exact hg' d' a' d'' e'
theorem yl_pR (hB' : B'.2.2.2.length = 36) {k' ci' j' c' : Nat} {f' : yd_M → Option (α × yd_M)} {f'' : q_Mem → Option (α × q_Mem)} (h' : ∀ d', yd_le B' (f' d') (f'' (yd_mk B' d'))) : yd_le B' (yd_pR d' k' ci' j' c' f') (q_pR (yd_mk B' d') k' ci' j' c' f'') := by
  unfold yd_pR
  by_cases hs' : yd_sh d' k' = some (.inl ci')
  · obtain ⟨h1', h2'⟩ := yd_shE hB' hs'
    have h36' : 36 ≤ k' := h2'
    rw [if_pos hs']
    unfold q_pR
    rw [if_pos ⟨h1', h2'⟩, show q_sR (yd_mk B' d') k' j' c' = yd_mk B' (d'.1, d'.2.1, d'.2.2.1, (k', j', c') :: d'.2.2.2) from by unfold q_sR yd_mk; simp only; rw [yd_fu _ _ _ _ _ _ h36']]
    exact h' _
  · rw [if_neg hs']; exact yl_none _
theorem yl_pI (hB' : B'.2.2.2.length = 36) {k' ci' j' : Nat} {v' : Int32} {f' : yd_M → Option (α × yd_M)} {f'' : q_Mem → Option (α × q_Mem)} (h' : ∀ d', yd_le B' (f' d') (f'' (yd_mk B' d'))) : yd_le B' (yd_pI d' k' ci' j' v' f') (q_pI (yd_mk B' d') k' ci' j' v' f'') := by
  unfold yd_pI
  by_cases hs' : yd_sh d' k' = some (.inl ci')
  · obtain ⟨h1', h2'⟩ := yd_shE hB' hs'
    have h36' : 36 ≤ k' := h2'
    rw [if_pos hs']
    unfold q_pI
    rw [if_pos ⟨h1', h2'⟩, show q_sI (yd_mk B' d') k' j' v' = yd_mk B' (d'.1, (k', j', v') :: d'.2.1, d'.2.2) from by unfold q_sI yd_mk; simp only; rw [yd_fu _ _ _ _ _ _ h36']]
    exact h' _
  · rw [if_neg hs']; exact yl_none _
theorem yl_pZ (hB' : B'.2.2.2.length = 36) {k' ci' j' : Nat} {v' : Int32} {f' : yd_M → Option (α × yd_M)} {f'' : q_Mem → Option (α × q_Mem)} (h' : ∀ d', yd_le B' (f' d') (f'' (yd_mk B' d'))) : yd_le B' (yd_pZ d' k' ci' j' v' f') (q_pZ (yd_mk B' d') k' ci' j' v' f'') := by
  unfold yd_pZ
  by_cases hs' : yd_sh d' k' = some (.inl ci') ∧ (v' = 0 ∨ v' = 1)
  · obtain ⟨h1', h2'⟩ := yd_shE hB' hs'.1
    have h36' : 36 ≤ k' := h2'
    rw [if_pos hs']
    unfold q_pZ
    rw [if_pos ⟨⟨h1', h2'⟩, hs'.2⟩, show q_sI (yd_mk B' d') k' j' v' = yd_mk B' (d'.1, (k', j', v') :: d'.2.1, d'.2.2) from by unfold q_sI yd_mk; simp only; rw [yd_fu _ _ _ _ _ _ h36']]
    exact h' _
  · rw [if_neg hs']; exact yl_none _
theorem yl_pL (hB' : B'.2.2.2.length = 36) {k' ci' j' : Nat} {v' : Int64} {f' : yd_M → Option (α × yd_M)} {f'' : q_Mem → Option (α × q_Mem)} (h' : ∀ d', yd_le B' (f' d') (f'' (yd_mk B' d'))) : yd_le B' (yd_pL d' k' ci' j' v' f') (q_pL (yd_mk B' d') k' ci' j' v' f'') := by
  unfold yd_pL
  by_cases hs' : yd_sh d' k' = some (.inl ci')
  · obtain ⟨h1', h2'⟩ := yd_shE hB' hs'
    have h36' : 36 ≤ k' := h2'
    rw [if_pos hs']
    unfold q_pL
    rw [if_pos ⟨h1', h2'⟩, show q_sL (yd_mk B' d') k' j' v' = yd_mk B' (d'.1, d'.2.1, (k', j', v') :: d'.2.2.1, d'.2.2.2) from by unfold q_sL yd_mk; simp only; rw [yd_fu _ _ _ _ _ _ h36']]
    exact h' _
  · rw [if_neg hs']; exact yl_none _
theorem yl_gR (hB' : B'.2.2.2.length = 36) {k' ci' j' : Nat} {f' : Nat → Option (α × yd_M)} {f'' : Nat → Option (α × q_Mem)} (h' : ∀ c', yd_le B' (f' c') (f'' c')) : yd_le B' (yd_gR d' k' ci' j' f') (q_gR (yd_mk B' d') k' ci' j' f'') := by
  unfold yd_gR
  by_cases hs' : yd_sh d' k' = some (.inl ci')
  · obtain ⟨h1', h2'⟩ := yd_shE hB' hs'
    have h36' : ¬ k' < 36 := by have : 36 ≤ k' := h2'; omega
    rw [if_pos hs']
    unfold q_gR
    rw [if_pos h1', show (yd_mk B' d').2.2.1 k' j' = yd_lk 0 d'.2.2.2 k' j' from by show yd_fn 0 B'.2.2.1 d'.2.2.2 k' j' = _; unfold yd_fn; rw [if_neg h36']]
    exact h' _
  · rw [if_neg hs']; exact yl_none _
theorem yl_tI (hB' : B'.2.2.2.length = 36) {a' : Nat} {i' v' : Int32} {f' : yd_M → Option (α × yd_M)} {f'' : q_Mem → Option (α × q_Mem)} (h' : ∀ d', yd_le B' (f' d') (f'' (yd_mk B' d'))) : yd_le B' (yd_tI d' a' i' v' f') (q_tI (yd_mk B' d') a' i' v' f'') := by
  unfold yd_tI
  by_cases hs' : i' < 0 ∨ yd_ln d' 0 a' ≤ i'.toNatClampNeg
  · rw [if_pos hs']; exact yl_none _
  · rw [if_neg hs']
    obtain ⟨h1', h2'⟩ := yd_lnE hB' (fun e' => hs' (.inr e'))
    have h36' : 36 ≤ a' := h2'
    unfold q_tI
    rw [if_neg (by
      rintro ((e' | e') | e')
      · exact hs' (.inl e')
      · exact h1' e'
      · have : a' < 36 := e'
        omega), show q_sI (yd_mk B' d') a' i'.toNatClampNeg v' = yd_mk B' (d'.1, (a', i'.toNatClampNeg, v') :: d'.2.1, d'.2.2) from by unfold q_sI yd_mk; simp only; rw [yd_fu _ _ _ _ _ _ h36']]
    exact h' _
theorem yl_tR (hB' : B'.2.2.2.length = 36) {t' a' : Nat} {i' : Int32} {ci' v' : Nat} {f' : yd_M → Option (α × yd_M)} {f'' : q_Mem → Option (α × q_Mem)} (h' : ∀ d', yd_le B' (f' d') (f'' (yd_mk B' d'))) : yd_le B' (yd_tR d' t' a' i' ci' v' f') (q_tR (yd_mk B' d') t' a' i' ci' v' f'') := by
  unfold yd_tR
  by_cases hs' : (i' < 0 ∨ yd_ln d' t' a' ≤ i'.toNatClampNeg) ∨ ¬ yd_sh d' v' = some (.inl ci')
  · rw [if_pos hs']; exact yl_none _
  · rw [if_neg hs']
    obtain ⟨h1', h2'⟩ := yd_lnE hB' (fun e' => hs' (.inl (.inr e')))
    have hv' : yd_sh d' v' = some (.inl ci') := Classical.byContradiction fun e' => hs' (.inr e')
    obtain ⟨h3', -⟩ := yd_shE hB' hv'
    have h36' : 36 ≤ a' := h2'
    unfold q_tR
    rw [if_neg (by
      rintro (((e' | e') | e') | e')
      · exact hs' (.inl (.inl e'))
      · exact h1' e'
      · have : a' < 36 := e'
        omega
      · exact e' h3'), show q_sR (yd_mk B' d') a' i'.toNatClampNeg (v' + 1) = yd_mk B' (d'.1, d'.2.1, d'.2.2.1, (a', i'.toNatClampNeg, v' + 1) :: d'.2.2.2) from by unfold q_sR yd_mk; simp only; rw [yd_fu _ _ _ _ _ _ h36']]
    exact h' _
theorem yl_nA (hB' : B'.2.2.2.length = 36) {t' : Nat} {n' : Int32} {b' : Nat} {f' : Nat → yd_M → Option (α × yd_M)} {f'' : Nat → q_Mem → Option (α × q_Mem)} (h' : ∀ k' d', yd_le B' (f' k' d') (f'' k' (yd_mk B' d'))) : yd_le B' (yd_nA d' t' n' b' f') (q_nA (yd_mk B' d') t' n' b' f'') := by
  unfold yd_nA q_nA
  by_cases hs' : n' < 0 ∨ b' < n'.toNatClampNeg
  · rw [if_pos hs']; exact yl_none _
  · rw [if_neg hs', if_neg hs', yd_pushE hB', yd_len hB']
    exact h' _ _
theorem yl_nO (hB' : B'.2.2.2.length = 36) {ci' : Nat} {f' : Nat → yd_M → Option (α × yd_M)} {f'' : Nat → q_Mem → Option (α × q_Mem)} (h' : ∀ k' d', yd_le B' (f' k' d') (f'' k' (yd_mk B' d'))) : yd_le B' (yd_nO d' ci' f') (q_nO (yd_mk B' d') ci' f'') := by
  unfold yd_nO q_nO
  rw [yd_pushE hB', yd_len hB']
  exact h' _ _
end YB'

section YC'
variable {B' : q_Mem}
theorem yi_X9 (hB' : B'.2.2.2.length = 36) (l0' : Nat) (d' : yd_M) : yd_le B' (yd_X9_init l0' d') (F_X9_init l0' (yd_mk B' d')) := by
  unfold yd_X9_init F_X9_init
  repeat (first | exact yl_some _ | exact yl_none _ | refine yl_nA hB' (fun _ d' => ?_) | refine yl_nO hB' (fun _ d' => ?_) | refine yl_pR hB' (fun d' => ?_) | refine yl_pI hB' (fun d' => ?_) | refine yl_pZ hB' (fun d' => ?_) | refine yl_pL hB' (fun d' => ?_) | refine yl_gR hB' (fun _ => ?_) | refine yl_nn (fun _ => ?_) | refine yl_tI hB' (fun d' => ?_) | refine yl_tR hB' (fun d' => ?_) | refine yl_ite ?_ ?_)
theorem yi_X3 (hB' : B'.2.2.2.length = 36) (l0' : Nat) (d' : yd_M) : yd_le B' (yd_X3_init l0' d') (F_X3_init l0' (yd_mk B' d')) := by
  unfold yd_X3_init F_X3_init
  repeat (first | exact yl_some _ | exact yl_none _ | refine yl_nA hB' (fun _ d' => ?_) | refine yl_nO hB' (fun _ d' => ?_) | refine yl_pR hB' (fun d' => ?_) | refine yl_pI hB' (fun d' => ?_) | refine yl_pZ hB' (fun d' => ?_) | refine yl_pL hB' (fun d' => ?_) | refine yl_gR hB' (fun _ => ?_) | refine yl_nn (fun _ => ?_) | refine yl_tI hB' (fun d' => ?_) | refine yl_tR hB' (fun d' => ?_) | refine yl_bd (by first | exact yi_X9 hB' _ _) (fun d' => ?_) | refine yl_ite ?_ ?_)
theorem yi_X5 (hB' : B'.2.2.2.length = 36) (l0' l1' : Nat) (d' : yd_M) : yd_le B' (yd_X5_init l0' l1' d') (F_X5_init l0' l1' (yd_mk B' d')) := by
  unfold yd_X5_init F_X5_init
  repeat (first | exact yl_some _ | exact yl_none _ | refine yl_nA hB' (fun _ d' => ?_) | refine yl_nO hB' (fun _ d' => ?_) | refine yl_pR hB' (fun d' => ?_) | refine yl_pI hB' (fun d' => ?_) | refine yl_pZ hB' (fun d' => ?_) | refine yl_pL hB' (fun d' => ?_) | refine yl_gR hB' (fun _ => ?_) | refine yl_nn (fun _ => ?_) | refine yl_tI hB' (fun d' => ?_) | refine yl_tR hB' (fun d' => ?_) | refine yl_bd (by first | exact yi_X9 hB' _ _ | exact yi_X3 hB' _ _) (fun d' => ?_) | refine yl_ite ?_ ?_)
theorem yi_X8 (hB' : B'.2.2.2.length = 36) (l0' : Nat) (d' : yd_M) : yd_le B' (yd_X8_init l0' d') (F_X8_init l0' (yd_mk B' d')) := by
  unfold yd_X8_init F_X8_init
  repeat (first | exact yl_some _ | exact yl_none _ | refine yl_nA hB' (fun _ d' => ?_) | refine yl_nO hB' (fun _ d' => ?_) | refine yl_pR hB' (fun d' => ?_) | refine yl_pI hB' (fun d' => ?_) | refine yl_pZ hB' (fun d' => ?_) | refine yl_pL hB' (fun d' => ?_) | refine yl_gR hB' (fun _ => ?_) | refine yl_nn (fun _ => ?_) | refine yl_tI hB' (fun d' => ?_) | refine yl_tR hB' (fun d' => ?_) | refine yl_bd (by first | exact yi_X9 hB' _ _ | exact yi_X3 hB' _ _ | exact yi_X5 hB' _ _ _) (fun d' => ?_) | refine yl_ite ?_ ?_)
theorem yi_X6 (hB' : B'.2.2.2.length = 36) (l0' : Nat) (d' : yd_M) : yd_le B' (yd_X6_init l0' d') (F_X6_init l0' (yd_mk B' d')) := by
  unfold yd_X6_init F_X6_init
  repeat (first | exact yl_some _ | exact yl_none _ | refine yl_nA hB' (fun _ d' => ?_) | refine yl_nO hB' (fun _ d' => ?_) | refine yl_pR hB' (fun d' => ?_) | refine yl_pI hB' (fun d' => ?_) | refine yl_pZ hB' (fun d' => ?_) | refine yl_pL hB' (fun d' => ?_) | refine yl_gR hB' (fun _ => ?_) | refine yl_nn (fun _ => ?_) | refine yl_tI hB' (fun d' => ?_) | refine yl_tR hB' (fun d' => ?_) | refine yl_bd (by first | exact yi_X9 hB' _ _ | exact yi_X3 hB' _ _ | exact yi_X5 hB' _ _ _ | exact yi_X8 hB' _ _) (fun d' => ?_) | refine yl_ite ?_ ?_)
theorem yi_X1 (hB' : B'.2.2.2.length = 36) (l0' l1' : Nat) (d' : yd_M) : yd_le B' (yd_X1_init l0' l1' d') (F_X1_init l0' l1' (yd_mk B' d')) := by
  unfold yd_X1_init F_X1_init
  repeat (first | exact yl_some _ | exact yl_none _ | refine yl_nA hB' (fun _ d' => ?_) | refine yl_nO hB' (fun _ d' => ?_) | refine yl_pR hB' (fun d' => ?_) | refine yl_pI hB' (fun d' => ?_) | refine yl_pZ hB' (fun d' => ?_) | refine yl_pL hB' (fun d' => ?_) | refine yl_gR hB' (fun _ => ?_) | refine yl_nn (fun _ => ?_) | refine yl_tI hB' (fun d' => ?_) | refine yl_tR hB' (fun d' => ?_) | refine yl_bd (by first | exact yi_X9 hB' _ _ | exact yi_X3 hB' _ _ | exact yi_X5 hB' _ _ _ | exact yi_X8 hB' _ _ | exact yi_X6 hB' _ _) (fun d' => ?_) | refine yl_ite ?_ ?_)
theorem yi_X0 (hB' : B'.2.2.2.length = 36) (l0' l1' l2' : Nat) (d' : yd_M) : yd_le B' (yd_X0_init l0' l1' l2' d') (F_X0_init l0' l1' l2' (yd_mk B' d')) := by
  unfold yd_X0_init F_X0_init
  repeat (first | exact yl_some _ | exact yl_none _ | refine yl_nA hB' (fun _ d' => ?_) | refine yl_nO hB' (fun _ d' => ?_) | refine yl_pR hB' (fun d' => ?_) | refine yl_pI hB' (fun d' => ?_) | refine yl_pZ hB' (fun d' => ?_) | refine yl_pL hB' (fun d' => ?_) | refine yl_gR hB' (fun _ => ?_) | refine yl_nn (fun _ => ?_) | refine yl_tI hB' (fun d' => ?_) | refine yl_tR hB' (fun d' => ?_) | refine yl_bd (by first | exact yi_X9 hB' _ _ | exact yi_X3 hB' _ _ | exact yi_X5 hB' _ _ _ | exact yi_X8 hB' _ _ | exact yi_X6 hB' _ _ | exact yi_X1 hB' _ _ _) (fun d' => ?_) | refine yl_ite ?_ ?_)
theorem yi_X2 (hB' : B'.2.2.2.length = 36) (l0' l1' l2' l3' : Nat) (d' : yd_M) : yd_le B' (yd_X2_init l0' l1' l2' l3' d') (F_X2_init l0' l1' l2' l3' (yd_mk B' d')) := by
  unfold yd_X2_init F_X2_init
  repeat (first | exact yl_some _ | exact yl_none _ | refine yl_nA hB' (fun _ d' => ?_) | refine yl_nO hB' (fun _ d' => ?_) | refine yl_pR hB' (fun d' => ?_) | refine yl_pI hB' (fun d' => ?_) | refine yl_pZ hB' (fun d' => ?_) | refine yl_pL hB' (fun d' => ?_) | refine yl_gR hB' (fun _ => ?_) | refine yl_nn (fun _ => ?_) | refine yl_tI hB' (fun d' => ?_) | refine yl_tR hB' (fun d' => ?_) | refine yl_bd (by first | exact yi_X9 hB' _ _ | exact yi_X3 hB' _ _ | exact yi_X5 hB' _ _ _ | exact yi_X8 hB' _ _ | exact yi_X6 hB' _ _ | exact yi_X1 hB' _ _ _ | exact yi_X0 hB' _ _ _ _) (fun d' => ?_) | refine yl_ite ?_ ?_)
theorem yi_X7 (hB' : B'.2.2.2.length = 36) (l0' l1' l2' : Nat) (d' : yd_M) : yd_le B' (yd_X7_init l0' l1' l2' d') (F_X7_init l0' l1' l2' (yd_mk B' d')) := by
  unfold yd_X7_init F_X7_init
  repeat (first | exact yl_some _ | exact yl_none _ | refine yl_nA hB' (fun _ d' => ?_) | refine yl_nO hB' (fun _ d' => ?_) | refine yl_pR hB' (fun d' => ?_) | refine yl_pI hB' (fun d' => ?_) | refine yl_pZ hB' (fun d' => ?_) | refine yl_pL hB' (fun d' => ?_) | refine yl_gR hB' (fun _ => ?_) | refine yl_nn (fun _ => ?_) | refine yl_tI hB' (fun d' => ?_) | refine yl_tR hB' (fun d' => ?_) | refine yl_bd (by first | exact yi_X9 hB' _ _ | exact yi_X3 hB' _ _ | exact yi_X5 hB' _ _ _ | exact yi_X8 hB' _ _ | exact yi_X6 hB' _ _ | exact yi_X1 hB' _ _ _ | exact yi_X0 hB' _ _ _ _ | exact yi_X2 hB' _ _ _ _ _) (fun d' => ?_) | refine yl_ite ?_ ?_)
theorem yi_X10 (hB' : B'.2.2.2.length = 36) (l0' : Nat) (d' : yd_M) : yd_le B' (yd_X10_init l0' d') (F_X10_init l0' (yd_mk B' d')) := by
  unfold yd_X10_init F_X10_init
  repeat (first | exact yl_some _ | exact yl_none _ | refine yl_nA hB' (fun _ d' => ?_) | refine yl_nO hB' (fun _ d' => ?_) | refine yl_pR hB' (fun d' => ?_) | refine yl_pI hB' (fun d' => ?_) | refine yl_pZ hB' (fun d' => ?_) | refine yl_pL hB' (fun d' => ?_) | refine yl_gR hB' (fun _ => ?_) | refine yl_nn (fun _ => ?_) | refine yl_tI hB' (fun d' => ?_) | refine yl_tR hB' (fun d' => ?_) | refine yl_bd (by first | exact yi_X9 hB' _ _ | exact yi_X3 hB' _ _ | exact yi_X5 hB' _ _ _ | exact yi_X8 hB' _ _ | exact yi_X6 hB' _ _ | exact yi_X1 hB' _ _ _ | exact yi_X0 hB' _ _ _ _ | exact yi_X2 hB' _ _ _ _ _ | exact yi_X7 hB' _ _ _ _) (fun d' => ?_) | refine yl_ite ?_ ?_)
theorem yi_X11 (hB' : B'.2.2.2.length = 36) (l0' : Nat) (d' : yd_M) : yd_le B' (yd_X11_init l0' d') (F_X11_init l0' (yd_mk B' d')) := by
  unfold yd_X11_init F_X11_init
  repeat (first | exact yl_some _ | exact yl_none _ | refine yl_nA hB' (fun _ d' => ?_) | refine yl_nO hB' (fun _ d' => ?_) | refine yl_pR hB' (fun d' => ?_) | refine yl_pI hB' (fun d' => ?_) | refine yl_pZ hB' (fun d' => ?_) | refine yl_pL hB' (fun d' => ?_) | refine yl_gR hB' (fun _ => ?_) | refine yl_nn (fun _ => ?_) | refine yl_tI hB' (fun d' => ?_) | refine yl_tR hB' (fun d' => ?_) | refine yl_bd (by first | exact yi_X9 hB' _ _ | exact yi_X3 hB' _ _ | exact yi_X5 hB' _ _ _ | exact yi_X8 hB' _ _ | exact yi_X6 hB' _ _ | exact yi_X1 hB' _ _ _ | exact yi_X0 hB' _ _ _ _ | exact yi_X2 hB' _ _ _ _ _ | exact yi_X7 hB' _ _ _ _ | exact yi_X10 hB' _ _) (fun d' => ?_) | refine yl_ite ?_ ?_)
theorem yi_X12 (hB' : B'.2.2.2.length = 36) (l0' : Nat) (d' : yd_M) : yd_le B' (yd_X12_init l0' d') (F_X12_init l0' (yd_mk B' d')) := by
  unfold yd_X12_init F_X12_init
  repeat (first | exact yl_some _ | exact yl_none _ | refine yl_nA hB' (fun _ d' => ?_) | refine yl_nO hB' (fun _ d' => ?_) | refine yl_pR hB' (fun d' => ?_) | refine yl_pI hB' (fun d' => ?_) | refine yl_pZ hB' (fun d' => ?_) | refine yl_pL hB' (fun d' => ?_) | refine yl_gR hB' (fun _ => ?_) | refine yl_nn (fun _ => ?_) | refine yl_tI hB' (fun d' => ?_) | refine yl_tR hB' (fun d' => ?_) | refine yl_bd (by first | exact yi_X9 hB' _ _ | exact yi_X3 hB' _ _ | exact yi_X5 hB' _ _ _ | exact yi_X8 hB' _ _ | exact yi_X6 hB' _ _ | exact yi_X1 hB' _ _ _ | exact yi_X0 hB' _ _ _ _ | exact yi_X2 hB' _ _ _ _ _ | exact yi_X7 hB' _ _ _ _ | exact yi_X10 hB' _ _ | exact yi_X11 hB' _ _) (fun d' => ?_) | refine yl_ite ?_ ?_)
end YC'
