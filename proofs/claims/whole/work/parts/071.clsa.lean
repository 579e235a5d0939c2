def X0_add (f : Nat) (p0 : Int32) (p1 : Int32) (p2 : Int32) (m0 : Mem) : Option (Int32 × Mem) :=
  if (m0.1 f 0) < (6 : Int32) then
    if inn (m0.1 f 0) 6 then
    if inn ((pI m0 (f + 1) (m0.1 f 0).toNatClampNeg p0).1 f 0) 6 then
    if inn ((pI (pI m0 (f + 1) (m0.1 f 0).toNatClampNeg p0) (f + 2) ((pI m0 (f + 1) (m0.1 f 0).toNatClampNeg p0).1 f 0).toNatClampNeg p1).1 f 0) 6 then
    if inn ((pI (pI (pI m0 (f + 1) (m0.1 f 0).toNatClampNeg p0) (f + 2) ((pI m0 (f + 1) (m0.1 f 0).toNatClampNeg p0).1 f 0).toNatClampNeg p1) (f + 3) ((pI (pI m0 (f + 1) (m0.1 f 0).toNatClampNeg p0) (f + 2) ((pI m0 (f + 1) (m0.1 f 0).toNatClampNeg p0).1 f 0).toNatClampNeg p1).1 f 0).toNatClampNeg (0 : Int32)).1 f 0) 6 then
    if inn ((pI (pI (pI (pI m0 (f + 1) (m0.1 f 0).toNatClampNeg p0) (f + 2) ((pI m0 (f + 1) (m0.1 f 0).toNatClampNeg p0).1 f 0).toNatClampNeg p1) (f + 3) ((pI (pI m0 (f + 1) (m0.1 f 0).toNatClampNeg p0) (f + 2) ((pI m0 (f + 1) (m0.1 f 0).toNatClampNeg p0).1 f 0).toNatClampNeg p1).1 f 0).toNatClampNeg (0 : Int32)) (f + 4) ((pI (pI (pI m0 (f + 1) (m0.1 f 0).toNatClampNeg p0) (f + 2) ((pI m0 (f + 1) (m0.1 f 0).toNatClampNeg p0).1 f 0).toNatClampNeg p1) (f + 3) ((pI (pI m0 (f + 1) (m0.1 f 0).toNatClampNeg p0) (f + 2) ((pI m0 (f + 1) (m0.1 f 0).toNatClampNeg p0).1 f 0).toNatClampNeg p1).1 f 0).toNatClampNeg (0 : Int32)).1 f 0).toNatClampNeg p2).1 f 0) 6 then
    if inn ((pI (pI (pI (pI (pI m0 (f + 1) (m0.1 f 0).toNatClampNeg p0) (f + 2) ((pI m0 (f + 1) (m0.1 f 0).toNatClampNeg p0).1 f 0).toNatClampNeg p1) (f + 3) ((pI (pI m0 (f + 1) (m0.1 f 0).toNatClampNeg p0) (f + 2) ((pI m0 (f + 1) (m0.1 f 0).toNatClampNeg p0).1 f 0).toNatClampNeg p1).1 f 0).toNatClampNeg (0 : Int32)) (f + 4) ((pI (pI (pI m0 (f + 1) (m0.1 f 0).toNatClampNeg p0) (f + 2) ((pI m0 (f + 1) (m0.1 f 0).toNatClampNeg p0).1 f 0).toNatClampNeg p1) (f + 3) ((pI (pI m0 (f + 1) (m0.1 f 0).toNatClampNeg p0) (f + 2) ((pI m0 (f + 1) (m0.1 f 0).toNatClampNeg p0).1 f 0).toNatClampNeg p1).1 f 0).toNatClampNeg (0 : Int32)).1 f 0).toNatClampNeg p2) (f + 5) ((pI (pI (pI (pI m0 (f + 1) (m0.1 f 0).toNatClampNeg p0) (f + 2) ((pI m0 (f + 1) (m0.1 f 0).toNatClampNeg p0).1 f 0).toNatClampNeg p1) (f + 3) ((pI (pI m0 (f + 1) (m0.1 f 0).toNatClampNeg p0) (f + 2) ((pI m0 (f + 1) (m0.1 f 0).toNatClampNeg p0).1 f 0).toNatClampNeg p1).1 f 0).toNatClampNeg (0 : Int32)) (f + 4) ((pI (pI (pI m0 (f + 1) (m0.1 f 0).toNatClampNeg p0) (f + 2) ((pI m0 (f + 1) (m0.1 f 0).toNatClampNeg p0).1 f 0).toNatClampNeg p1) (f + 3) ((pI (pI m0 (f + 1) (m0.1 f 0).toNatClampNeg p0) (f + 2) ((pI m0 (f + 1) (m0.1 f 0).toNatClampNeg p0).1 f 0).toNatClampNeg p1).1 f 0).toNatClampNeg (0 : Int32)).1 f 0).toNatClampNeg p2).1 f 0).toNatClampNeg (0 : Int32)).1 f 0) 6 then
    some ((pI (pI (pI (pI (pI (pI m0 (f + 1) (m0.1 f 0).toNatClampNeg p0) (f + 2) ((pI m0 (f + 1) (m0.1 f 0).toNatClampNeg p0).1 f 0).toNatClampNeg p1) (f + 3) ((pI (pI m0 (f + 1) (m0.1 f 0).toNatClampNeg p0) (f + 2) ((pI m0 (f + 1) (m0.1 f 0).toNatClampNeg p0).1 f 0).toNatClampNeg p1).1 f 0).toNatClampNeg (0 : Int32)) (f + 4) ((pI (pI (pI m0 (f + 1) (m0.1 f 0).toNatClampNeg p0) (f + 2) ((pI m0 (f + 1) (m0.1 f 0).toNatClampNeg p0).1 f 0).toNatClampNeg p1) (f + 3) ((pI (pI m0 (f + 1) (m0.1 f 0).toNatClampNeg p0) (f + 2) ((pI m0 (f + 1) (m0.1 f 0).toNatClampNeg p0).1 f 0).toNatClampNeg p1).1 f 0).toNatClampNeg (0 : Int32)).1 f 0).toNatClampNeg p2) (f + 5) ((pI (pI (pI (pI m0 (f + 1) (m0.1 f 0).toNatClampNeg p0) (f + 2) ((pI m0 (f + 1) (m0.1 f 0).toNatClampNeg p0).1 f 0).toNatClampNeg p1) (f + 3) ((pI (pI m0 (f + 1) (m0.1 f 0).toNatClampNeg p0) (f + 2) ((pI m0 (f + 1) (m0.1 f 0).toNatClampNeg p0).1 f 0).toNatClampNeg p1).1 f 0).toNatClampNeg (0 : Int32)) (f + 4) ((pI (pI (pI m0 (f + 1) (m0.1 f 0).toNatClampNeg p0) (f + 2) ((pI m0 (f + 1) (m0.1 f 0).toNatClampNeg p0).1 f 0).toNatClampNeg p1) (f + 3) ((pI (pI m0 (f + 1) (m0.1 f 0).toNatClampNeg p0) (f + 2) ((pI m0 (f + 1) (m0.1 f 0).toNatClampNeg p0).1 f 0).toNatClampNeg p1).1 f 0).toNatClampNeg (0 : Int32)).1 f 0).toNatClampNeg p2).1 f 0).toNatClampNeg (0 : Int32)) (f + 6) ((pI (pI (pI (pI (pI m0 (f + 1) (m0.1 f 0).toNatClampNeg p0) (f + 2) ((pI m0 (f + 1) (m0.1 f 0).toNatClampNeg p0).1 f 0).toNatClampNeg p1) (f + 3) ((pI (pI m0 (f + 1) (m0.1 f 0).toNatClampNeg p0) (f + 2) ((pI m0 (f + 1) (m0.1 f 0).toNatClampNeg p0).1 f 0).toNatClampNeg p1).1 f 0).toNatClampNeg (0 : Int32)) (f + 4) ((pI (pI (pI m0 (f + 1) (m0.1 f 0).toNatClampNeg p0) (f + 2) ((pI m0 (f + 1) (m0.1 f 0).toNatClampNeg p0).1 f 0).toNatClampNeg p1) (f + 3) ((pI (pI m0 (f + 1) (m0.1 f 0).toNatClampNeg p0) (f + 2) ((pI m0 (f + 1) (m0.1 f 0).toNatClampNeg p0).1 f 0).toNatClampNeg p1).1 f 0).toNatClampNeg (0 : Int32)).1 f 0).toNatClampNeg p2) (f + 5) ((pI (pI (pI (pI m0 (f + 1) (m0.1 f 0).toNatClampNeg p0) (f + 2) ((pI m0 (f + 1) (m0.1 f 0).toNatClampNeg p0).1 f 0).toNatClampNeg p1) (f + 3) ((pI (pI m0 (f + 1) (m0.1 f 0).toNatClampNeg p0) (f + 2) ((pI m0 (f + 1) (m0.1 f 0).toNatClampNeg p0).1 f 0).toNatClampNeg p1).1 f 0).toNatClampNeg (0 : Int32)) (f + 4) ((pI (pI (pI m0 (f + 1) (m0.1 f 0).toNatClampNeg p0) (f + 2) ((pI m0 (f + 1) (m0.1 f 0).toNatClampNeg p0).1 f 0).toNatClampNeg p1) (f + 3) ((pI (pI m0 (f + 1) (m0.1 f 0).toNatClampNeg p0) (f + 2) ((pI m0 (f + 1) (m0.1 f 0).toNatClampNeg p0).1 f 0).toNatClampNeg p1).1 f 0).toNatClampNeg (0 : Int32)).1 f 0).toNatClampNeg p2).1 f 0).toNatClampNeg (0 : Int32)).1 f 0).toNatClampNeg (0 : Int32)).1 f 0, pI (pI (pI (pI (pI (pI (pI m0 (f + 1) (m0.1 f 0).toNatClampNeg p0) (f + 2) ((pI m0 (f + 1) (m0.1 f 0).toNatClampNeg p0).1 f 0).toNatClampNeg p1) (f + 3) ((pI (pI m0 (f + 1) (m0.1 f 0).toNatClampNeg p0) (f + 2) ((pI m0 (f + 1) (m0.1 f 0).toNatClampNeg p0).1 f 0).toNatClampNeg p1).1 f 0).toNatClampNeg (0 : Int32)) (f + 4) ((pI (pI (pI m0 (f + 1) (m0.1 f 0).toNatClampNeg p0) (f + 2) ((pI m0 (f + 1) (m0.1 f 0).toNatClampNeg p0).1 f 0).toNatClampNeg p1) (f + 3) ((pI (pI m0 (f + 1) (m0.1 f 0).toNatClampNeg p0) (f + 2) ((pI m0 (f + 1) (m0.1 f 0).toNatClampNeg p0).1 f 0).toNatClampNeg p1).1 f 0).toNatClampNeg (0 : Int32)).1 f 0).toNatClampNeg p2) (f + 5) ((pI (pI (pI (pI m0 (f + 1) (m0.1 f 0).toNatClampNeg p0) (f + 2) ((pI m0 (f + 1) (m0.1 f 0).toNatClampNeg p0).1 f 0).toNatClampNeg p1) (f + 3) ((pI (pI m0 (f + 1) (m0.1 f 0).toNatClampNeg p0) (f + 2) ((pI m0 (f + 1) (m0.1 f 0).toNatClampNeg p0).1 f 0).toNatClampNeg p1).1 f 0).toNatClampNeg (0 : Int32)) (f + 4) ((pI (pI (pI m0 (f + 1) (m0.1 f 0).toNatClampNeg p0) (f + 2) ((pI m0 (f + 1) (m0.1 f 0).toNatClampNeg p0).1 f 0).toNatClampNeg p1) (f + 3) ((pI (pI m0 (f + 1) (m0.1 f 0).toNatClampNeg p0) (f + 2) ((pI m0 (f + 1) (m0.1 f 0).toNatClampNeg p0).1 f 0).toNatClampNeg p1).1 f 0).toNatClampNeg (0 : Int32)).1 f 0).toNatClampNeg p2).1 f 0).toNatClampNeg (0 : Int32)) (f + 6) ((pI (pI (pI (pI (pI m0 (f + 1) (m0.1 f 0).toNatClampNeg p0) (f + 2) ((pI m0 (f + 1) (m0.1 f 0).toNatClampNeg p0).1 f 0).toNatClampNeg p1) (f + 3) ((pI (pI m0 (f + 1) (m0.1 f 0).toNatClampNeg p0) (f + 2) ((pI m0 (f + 1) (m0.1 f 0).toNatClampNeg p0).1 f 0).toNatClampNeg p1).1 f 0).toNatClampNeg (0 : Int32)) (f + 4) ((pI (pI (pI m0 (f + 1) (m0.1 f 0).toNatClampNeg p0) (f + 2) ((pI m0 (f + 1) (m0.1 f 0).toNatClampNeg p0).1 f 0).toNatClampNeg p1) (f + 3) ((pI (pI m0 (f + 1) (m0.1 f 0).toNatClampNeg p0) (f + 2) ((pI m0 (f + 1) (m0.1 f 0).toNatClampNeg p0).1 f 0).toNatClampNeg p1).1 f 0).toNatClampNeg (0 : Int32)).1 f 0).toNatClampNeg p2) (f + 5) ((pI (pI (pI (pI m0 (f + 1) (m0.1 f 0).toNatClampNeg p0) (f + 2) ((pI m0 (f + 1) (m0.1 f 0).toNatClampNeg p0).1 f 0).toNatClampNeg p1) (f + 3) ((pI (pI m0 (f + 1) (m0.1 f 0).toNatClampNeg p0) (f + 2) ((pI m0 (f + 1) (m0.1 f 0).toNatClampNeg p0).1 f 0).toNatClampNeg p1).1 f 0).toNatClampNeg (0 : Int32)) (f + 4) ((pI (pI (pI m0 (f + 1) (m0.1 f 0).toNatClampNeg p0) (f + 2) ((pI m0 (f + 1) (m0.1 f 0).toNatClampNeg p0).1 f 0).toNatClampNeg p1) (f + 3) ((pI (pI m0 (f + 1) (m0.1 f 0).toNatClampNeg p0) (f + 2) ((pI m0 (f + 1) (m0.1 f 0).toNatClampNeg p0).1 f 0).toNatClampNeg p1).1 f 0).toNatClampNeg (0 : Int32)).1 f 0).toNatClampNeg p2).1 f 0).toNatClampNeg (0 : Int32)).1 f 0).toNatClampNeg (0 : Int32)) f 0 (((pI (pI (pI (pI (pI (pI m0 (f + 1) (m0.1 f 0).toNatClampNeg p0) (f + 2) ((pI m0 (f + 1) (m0.1 f 0).toNatClampNeg p0).1 f 0).toNatClampNeg p1) (f + 3) ((pI (pI m0 (f + 1) (m0.1 f 0).toNatClampNeg p0) (f + 2) ((pI m0 (f + 1) (m0.1 f 0).toNatClampNeg p0).1 f 0).toNatClampNeg p1).1 f 0).toNatClampNeg (0 : Int32)) (f + 4) ((pI (pI (pI m0 (f + 1) (m0.1 f 0).toNatClampNeg p0) (f + 2) ((pI m0 (f + 1) (m0.1 f 0).toNatClampNeg p0).1 f 0).toNatClampNeg p1) (f + 3) ((pI (pI m0 (f + 1) (m0.1 f 0).toNatClampNeg p0) (f + 2) ((pI m0 (f + 1) (m0.1 f 0).toNatClampNeg p0).1 f 0).toNatClampNeg p1).1 f 0).toNatClampNeg (0 : Int32)).1 f 0).toNatClampNeg p2) (f + 5) ((pI (pI (pI (pI m0 (f + 1) (m0.1 f 0).toNatClampNeg p0) (f + 2) ((pI m0 (f + 1) (m0.1 f 0).toNatClampNeg p0).1 f 0).toNatClampNeg p1) (f + 3) ((pI (pI m0 (f + 1) (m0.1 f 0).toNatClampNeg p0) (f + 2) ((pI m0 (f + 1) (m0.1 f 0).toNatClampNeg p0).1 f 0).toNatClampNeg p1).1 f 0).toNatClampNeg (0 : Int32)) (f + 4) ((pI (pI (pI m0 (f + 1) (m0.1 f 0).toNatClampNeg p0) (f + 2) ((pI m0 (f + 1) (m0.1 f 0).toNatClampNeg p0).1 f 0).toNatClampNeg p1) (f + 3) ((pI (pI m0 (f + 1) (m0.1 f 0).toNatClampNeg p0) (f + 2) ((pI m0 (f + 1) (m0.1 f 0).toNatClampNeg p0).1 f 0).toNatClampNeg p1).1 f 0).toNatClampNeg (0 : Int32)).1 f 0).toNatClampNeg p2).1 f 0).toNatClampNeg (0 : Int32)) (f + 6) ((pI (pI (pI (pI (pI m0 (f + 1) (m0.1 f 0).toNatClampNeg p0) (f + 2) ((pI m0 (f + 1) (m0.1 f 0).toNatClampNeg p0).1 f 0).toNatClampNeg p1) (f + 3) ((pI (pI m0 (f + 1) (m0.1 f 0).toNatClampNeg p0) (f + 2) ((pI m0 (f + 1) (m0.1 f 0).toNatClampNeg p0).1 f 0).toNatClampNeg p1).1 f 0).toNatClampNeg (0 : Int32)) (f + 4) ((pI (pI (pI m0 (f + 1) (m0.1 f 0).toNatClampNeg p0) (f + 2) ((pI m0 (f + 1) (m0.1 f 0).toNatClampNeg p0).1 f 0).toNatClampNeg p1) (f + 3) ((pI (pI m0 (f + 1) (m0.1 f 0).toNatClampNeg p0) (f + 2) ((pI m0 (f + 1) (m0.1 f 0).toNatClampNeg p0).1 f 0).toNatClampNeg p1).1 f 0).toNatClampNeg (0 : Int32)).1 f 0).toNatClampNeg p2) (f + 5) ((pI (pI (pI (pI m0 (f + 1) (m0.1 f 0).toNatClampNeg p0) (f + 2) ((pI m0 (f + 1) (m0.1 f 0).toNatClampNeg p0).1 f 0).toNatClampNeg p1) (f + 3) ((pI (pI m0 (f + 1) (m0.1 f 0).toNatClampNeg p0) (f + 2) ((pI m0 (f + 1) (m0.1 f 0).toNatClampNeg p0).1 f 0).toNatClampNeg p1).1 f 0).toNatClampNeg (0 : Int32)) (f + 4) ((pI (pI (pI m0 (f + 1) (m0.1 f 0).toNatClampNeg p0) (f + 2) ((pI m0 (f + 1) (m0.1 f 0).toNatClampNeg p0).1 f 0).toNatClampNeg p1) (f + 3) ((pI (pI m0 (f + 1) (m0.1 f 0).toNatClampNeg p0) (f + 2) ((pI m0 (f + 1) (m0.1 f 0).toNatClampNeg p0).1 f 0).toNatClampNeg p1).1 f 0).toNatClampNeg (0 : Int32)).1 f 0).toNatClampNeg p2).1 f 0).toNatClampNeg (0 : Int32)).1 f 0).toNatClampNeg (0 : Int32)).1 f 0) + (1 : Int32)))
    else none
    else none
    else none
    else none
    else none
    else none
  else
    some ((-4 : Int32), m0)
abbrev rmX0_add : Room := { frames := 0, cells := 0, slots := 0, locals := 0 }

set_option maxRecDepth 100000 in
set_option maxHeartbeats 4000000 in
theorem c_X0_add {l : Launch} {G : GG} {b : Nat} {ad : Nat → Nat} {nt : Nat} {z : Nat → Nat} {f : Nat} {p0 : Int32} {p1 : Int32} {p2 : Int32} {m0 : Mem} {r9 : Int32} {m9 : Mem} (hf9 : isF f) (hf : X0_add f p0 p1 p2 m0 = some (r9, m9)) : MtI l yX0_add cX0_add 4 (some .int) rmX0_add G b (sg ad nt z) m0 [.ref (ad f), .int p0, .int p1, .int p2] (pEI r9 (sg ad nt z) m9) := by
  refine mtI_of (by decide) (Nat.le_of_ble_eq_true rfl) .int rfl (fun Γ hG X hnm hr => ?_)
  have hret : ∀ (pc : Nat) (lv : List (Nat × Value)), decode cX0_add pc = .ok (.ireturn, 1) → narrow .int (.int r9) = .int r9 → Go Γ b (sg ad nt z) 0 0 pc lv [.int r9] m9 := fun pc lv d hn => hr pc lv _ _ _ d ⟨rfl, rfl, rfl⟩ hn
  show Go Γ b (sg ad nt z) 0 0 0 [(0, .ref (ad f)), (1, .int p0), (2, .int p1), (3, .int p2)] [] m0
  refine g_aload_n X 0 dX0_add_0 rfl rfl ?_
  refine g_getI X f 0 0 dX0_add_1 (F_lt0 hf9) (F_kd0 hf9) (by decide) rfl iw_X0 (by decide) rfl q_fl_X0_9 ?_
  refine g_bipush X (v := 6) dX0_add_4 (by decide) ?_
  refine g_icmp_lt X (tgt := 12) dX0_add_6 (by decide) (fun c6 => ?_) (fun c6 => ?_)
  · have hf := it c6 hf
    refine g_aload_n X 0 dX0_add_12 rfl rfl ?_
    refine g_getr X (x := ad (f + 1)) f 0 3 dX0_add_13 (F_lt0 hf9) (F_kd0 hf9) (by decide) rfl iw_X0 (by decide) rfl q_fl_X0_21 (F_r3 hf9) ?_
    refine g_aload_n X 0 dX0_add_16 rfl rfl ?_
    refine g_getI X f 0 0 dX0_add_17 (F_lt0 hf9) (F_kd0 hf9) (by decide) rfl iw_X0 (by decide) rfl q_fl_X0_9 ?_
    refine g_iload_n X 1 dX0_add_20 rfl rfl ?_
    obtain ⟨h21, hf⟩ := grd hf
    refine g_iast X (f + 1) (n := 6) dX0_add_21 (F_lt1 hf9) (F_kd1 hf9) (F_ln1 hf9) h21 ?_
    refine g_aload_n X 0 dX0_add_22 rfl rfl ?_
    refine g_getr X (x := ad (f + 2)) f 0 4 dX0_add_23 (F_lt0 hf9) (F_kd0 hf9) (by decide) rfl iw_X0 (by decide) rfl q_fl_X0_25 (F_r4 hf9) ?_
    refine g_aload_n X 0 dX0_add_26 rfl rfl ?_
    refine g_getI X f 0 0 dX0_add_27 (F_lt0 hf9) (F_kd0 hf9) (by decide) rfl iw_X0 (by decide) rfl q_fl_X0_9 ?_
    refine g_iload_n X 2 dX0_add_30 rfl rfl ?_
    obtain ⟨h31, hf⟩ := grd hf
    refine g_iast X (f + 2) (n := 6) dX0_add_31 (F_lt2 hf9) (F_kd2 hf9) (F_ln2 hf9) h31 ?_
    refine g_aload_n X 0 dX0_add_32 rfl rfl ?_
    refine g_getr X (x := ad (f + 3)) f 0 5 dX0_add_33 (F_lt0 hf9) (F_kd0 hf9) (by decide) rfl iw_X0 (by decide) rfl q_fl_X0_28 (F_r5 hf9) ?_
    refine g_aload_n X 0 dX0_add_36 rfl rfl ?_
    refine g_getI X f 0 0 dX0_add_37 (F_lt0 hf9) (F_kd0 hf9) (by decide) rfl iw_X0 (by decide) rfl q_fl_X0_9 ?_
    refine g_iconst X (v := 0) dX0_add_40 (by decide) ?_
    obtain ⟨h41, hf⟩ := grd hf
    refine g_iast X (f + 3) (n := 6) dX0_add_41 (F_lt3 hf9) (F_kd3 hf9) (F_ln3 hf9) h41 ?_
    refine g_aload_n X 0 dX0_add_42 rfl rfl ?_
    refine g_getr X (x := ad (f + 4)) f 0 6 dX0_add_43 (F_lt0 hf9) (F_kd0 hf9) (by decide) rfl iw_X0 (by decide) rfl q_fl_X0_31 (F_r6 hf9) ?_
    refine g_aload_n X 0 dX0_add_46 rfl rfl ?_
    refine g_getI X f 0 0 dX0_add_47 (F_lt0 hf9) (F_kd0 hf9) (by decide) rfl iw_X0 (by decide) rfl q_fl_X0_9 ?_
    refine g_iload_n X 3 dX0_add_50 rfl rfl ?_
    obtain ⟨h51, hf⟩ := grd hf
    refine g_iast X (f + 4) (n := 6) dX0_add_51 (F_lt4 hf9) (F_kd4 hf9) (F_ln4 hf9) h51 ?_
    refine g_aload_n X 0 dX0_add_52 rfl rfl ?_
    refine g_getr X (x := ad (f + 5)) f 0 7 dX0_add_53 (F_lt0 hf9) (F_kd0 hf9) (by decide) rfl iw_X0 (by decide) rfl q_fl_X0_34 (F_r7 hf9) ?_
    refine g_aload_n X 0 dX0_add_56 rfl rfl ?_
    refine g_getI X f 0 0 dX0_add_57 (F_lt0 hf9) (F_kd0 hf9) (by decide) rfl iw_X0 (by decide) rfl q_fl_X0_9 ?_
    refine g_iconst X (v := 0) dX0_add_60 (by decide) ?_
    obtain ⟨h61, hf⟩ := grd hf
    refine g_iast X (f + 5) (n := 6) dX0_add_61 (F_lt5 hf9) (F_kd5 hf9) (F_ln5 hf9) h61 ?_
    refine g_aload_n X 0 dX0_add_62 rfl rfl ?_
    refine g_getr X (x := ad (f + 6)) f 0 8 dX0_add_63 (F_lt0 hf9) (F_kd0 hf9) (by decide) rfl iw_X0 (by decide) rfl q_fl_X0_37 (F_r8 hf9) ?_
    refine g_aload_n X 0 dX0_add_66 rfl rfl ?_
    refine g_getI X f 0 0 dX0_add_67 (F_lt0 hf9) (F_kd0 hf9) (by decide) rfl iw_X0 (by decide) rfl q_fl_X0_9 ?_
    refine g_iconst X (v := 0) dX0_add_70 (by decide) ?_
    obtain ⟨h71, hf⟩ := grd hf
    refine g_iast X (f + 6) (n := 6) dX0_add_71 (F_lt6 hf9) (F_kd6 hf9) (F_ln6 hf9) h71 ?_
    refine g_aload_n X 0 dX0_add_72 rfl rfl ?_
    refine g_dup X dX0_add_73 rfl ?_
    refine g_getI X f 0 0 dX0_add_74 (F_lt0 hf9) (F_kd0 hf9) (by decide) rfl iw_X0 (by decide) rfl q_fl_X0_9 ?_
    refine g_dup_x1 X dX0_add_77 rfl rfl ?_
    refine g_iconst X (v := 1) dX0_add_78 (by decide) ?_
    refine g_iadd X dX0_add_79 ?_
    refine g_putI X (tyf := tyX0) f 0 0 dX0_add_80 (F_lt0 hf9) (F_kd0 hf9) (by decide) rfl iw_X0 (by decide) rfl q_fl_X0_9 tyX0_ok nmX0 rfl rfl rfl ?_
    obtain ⟨rfl, rfl⟩ := lf2 hf
    exact hret 83 _ dX0_add_83 rfl
  · have hf := ie c6 hf
    refine g_bipush X (v := -4) dX0_add_9 (by decide) ?_
    obtain ⟨rfl, rfl⟩ := lf2 hf
    exact hret 11 _ dX0_add_11 rfl

def X0_become_26 (f : Nat) (g : Nat) : Nat → Int32 → Mem → Option (Mem)
  | 0, _, _ => none
  | n + 1, v2, m0 =>
    if (6 : Int32) ≤ v2 then
      some m0
    else
      if inn v2 6 then
      if inn v2 6 then
      if inn v2 6 then
      if inn v2 6 then
      if inn v2 6 then
      if inn v2 6 then
      if inn v2 6 then
      if inn v2 6 then
      if inn v2 6 then
      if inn v2 6 then
      if inn v2 6 then
      if inn v2 6 then
      X0_become_26 f g n (v2 + (1 : Int32)) (pI (pI (pI (pI (pI (pI m0 (f + 1) v2.toNatClampNeg (m0.1 (g + 1) v2.toNatClampNeg)) (f + 2) v2.toNatClampNeg ((pI m0 (f + 1) v2.toNatClampNeg (m0.1 (g + 1) v2.toNatClampNeg)).1 (g + 2) v2.toNatClampNeg)) (f + 3) v2.toNatClampNeg ((pI (pI m0 (f + 1) v2.toNatClampNeg (m0.1 (g + 1) v2.toNatClampNeg)) (f + 2) v2.toNatClampNeg ((pI m0 (f + 1) v2.toNatClampNeg (m0.1 (g + 1) v2.toNatClampNeg)).1 (g + 2) v2.toNatClampNeg)).1 (g + 3) v2.toNatClampNeg)) (f + 4) v2.toNatClampNeg ((pI (pI (pI m0 (f + 1) v2.toNatClampNeg (m0.1 (g + 1) v2.toNatClampNeg)) (f + 2) v2.toNatClampNeg ((pI m0 (f + 1) v2.toNatClampNeg (m0.1 (g + 1) v2.toNatClampNeg)).1 (g + 2) v2.toNatClampNeg)) (f + 3) v2.toNatClampNeg ((pI (pI m0 (f + 1) v2.toNatClampNeg (m0.1 (g + 1) v2.toNatClampNeg)) (f + 2) v2.toNatClampNeg ((pI m0 (f + 1) v2.toNatClampNeg (m0.1 (g + 1) v2.toNatClampNeg)).1 (g + 2) v2.toNatClampNeg)).1 (g + 3) v2.toNatClampNeg)).1 (g + 4) v2.toNatClampNeg)) (f + 5) v2.toNatClampNeg ((pI (pI (pI (pI m0 (f + 1) v2.toNatClampNeg (m0.1 (g + 1) v2.toNatClampNeg)) (f + 2) v2.toNatClampNeg ((pI m0 (f + 1) v2.toNatClampNeg (m0.1 (g + 1) v2.toNatClampNeg)).1 (g + 2) v2.toNatClampNeg)) (f + 3) v2.toNatClampNeg ((pI (pI m0 (f + 1) v2.toNatClampNeg (m0.1 (g + 1) v2.toNatClampNeg)) (f + 2) v2.toNatClampNeg ((pI m0 (f + 1) v2.toNatClampNeg (m0.1 (g + 1) v2.toNatClampNeg)).1 (g + 2) v2.toNatClampNeg)).1 (g + 3) v2.toNatClampNeg)) (f + 4) v2.toNatClampNeg ((pI (pI (pI m0 (f + 1) v2.toNatClampNeg (m0.1 (g + 1) v2.toNatClampNeg)) (f + 2) v2.toNatClampNeg ((pI m0 (f + 1) v2.toNatClampNeg (m0.1 (g + 1) v2.toNatClampNeg)).1 (g + 2) v2.toNatClampNeg)) (f + 3) v2.toNatClampNeg ((pI (pI m0 (f + 1) v2.toNatClampNeg (m0.1 (g + 1) v2.toNatClampNeg)) (f + 2) v2.toNatClampNeg ((pI m0 (f + 1) v2.toNatClampNeg (m0.1 (g + 1) v2.toNatClampNeg)).1 (g + 2) v2.toNatClampNeg)).1 (g + 3) v2.toNatClampNeg)).1 (g + 4) v2.toNatClampNeg)).1 (g + 5) v2.toNatClampNeg)) (f + 6) v2.toNatClampNeg ((pI (pI (pI (pI (pI m0 (f + 1) v2.toNatClampNeg (m0.1 (g + 1) v2.toNatClampNeg)) (f + 2) v2.toNatClampNeg ((pI m0 (f + 1) v2.toNatClampNeg (m0.1 (g + 1) v2.toNatClampNeg)).1 (g + 2) v2.toNatClampNeg)) (f + 3) v2.toNatClampNeg ((pI (pI m0 (f + 1) v2.toNatClampNeg (m0.1 (g + 1) v2.toNatClampNeg)) (f + 2) v2.toNatClampNeg ((pI m0 (f + 1) v2.toNatClampNeg (m0.1 (g + 1) v2.toNatClampNeg)).1 (g + 2) v2.toNatClampNeg)).1 (g + 3) v2.toNatClampNeg)) (f + 4) v2.toNatClampNeg ((pI (pI (pI m0 (f + 1) v2.toNatClampNeg (m0.1 (g + 1) v2.toNatClampNeg)) (f + 2) v2.toNatClampNeg ((pI m0 (f + 1) v2.toNatClampNeg (m0.1 (g + 1) v2.toNatClampNeg)).1 (g + 2) v2.toNatClampNeg)) (f + 3) v2.toNatClampNeg ((pI (pI m0 (f + 1) v2.toNatClampNeg (m0.1 (g + 1) v2.toNatClampNeg)) (f + 2) v2.toNatClampNeg ((pI m0 (f + 1) v2.toNatClampNeg (m0.1 (g + 1) v2.toNatClampNeg)).1 (g + 2) v2.toNatClampNeg)).1 (g + 3) v2.toNatClampNeg)).1 (g + 4) v2.toNatClampNeg)) (f + 5) v2.toNatClampNeg ((pI (pI (pI (pI m0 (f + 1) v2.toNatClampNeg (m0.1 (g + 1) v2.toNatClampNeg)) (f + 2) v2.toNatClampNeg ((pI m0 (f + 1) v2.toNatClampNeg (m0.1 (g + 1) v2.toNatClampNeg)).1 (g + 2) v2.toNatClampNeg)) (f + 3) v2.toNatClampNeg ((pI (pI m0 (f + 1) v2.toNatClampNeg (m0.1 (g + 1) v2.toNatClampNeg)) (f + 2) v2.toNatClampNeg ((pI m0 (f + 1) v2.toNatClampNeg (m0.1 (g + 1) v2.toNatClampNeg)).1 (g + 2) v2.toNatClampNeg)).1 (g + 3) v2.toNatClampNeg)) (f + 4) v2.toNatClampNeg ((pI (pI (pI m0 (f + 1) v2.toNatClampNeg (m0.1 (g + 1) v2.toNatClampNeg)) (f + 2) v2.toNatClampNeg ((pI m0 (f + 1) v2.toNatClampNeg (m0.1 (g + 1) v2.toNatClampNeg)).1 (g + 2) v2.toNatClampNeg)) (f + 3) v2.toNatClampNeg ((pI (pI m0 (f + 1) v2.toNatClampNeg (m0.1 (g + 1) v2.toNatClampNeg)) (f + 2) v2.toNatClampNeg ((pI m0 (f + 1) v2.toNatClampNeg (m0.1 (g + 1) v2.toNatClampNeg)).1 (g + 2) v2.toNatClampNeg)).1 (g + 3) v2.toNatClampNeg)).1 (g + 4) v2.toNatClampNeg)).1 (g + 5) v2.toNatClampNeg)).1 (g + 6) v2.toNatClampNeg))
      else none
      else none
      else none
      else none
      else none
      else none
      else none
      else none
      else none
      else none
      else none
      else none
def X0_become (f : Nat) (g : Nat) (m0 : Mem) : Option (Mem) :=
  X0_become_26 f g 10000 (0 : Int32) (pI (pI (pI m0 f 0 (m0.1 g 0)) f 1 ((pI m0 f 0 (m0.1 g 0)).1 g 1)) f 2 ((pI (pI m0 f 0 (m0.1 g 0)) f 1 ((pI m0 f 0 (m0.1 g 0)).1 g 1)).1 g 2))
abbrev rmX0_become : Room := { frames := 0, cells := 0, slots := 0, locals := 0 }
set_option maxRecDepth 100000 in
set_option maxHeartbeats 4000000 in
theorem w_X0_become_26 {Γ : Ga} {b : Nat} {ad : Nat → Nat} {nt : Nat} {z : Nat → Nat} {f : Nat} {g : Nat} {m9 : Mem} (hf9 : isF f) (hg9 : isF g) (X : Cx Γ b cX0_become 3 RX0 (none) rmX0_become) (hret : ∀ (pc : Nat) (lv : List (Nat × Value)), decode cX0_become pc = .ok (.return_, 1) → Go Γ b (sg ad nt z) 0 0 pc lv [] m9) : ∀ (n : Nat) (v2 : Int32) (m0 : Mem), X0_become_26 f g n v2 m0 = some m9 → Go Γ b (sg ad nt z) 0 0 26 [(0, .ref (ad f)), (1, .ref (ad g)), (2, .int v2)] [] m0 := by
  intro n
  induction n with
  | zero =>
    intro v2 m0 hf
    cases hf
  | succ n ih =>
    intro v2 m0 hf
    refine g_iload_n X 2 dX0_become_26 rfl rfl ?_
    refine g_bipush X (v := 6) dX0_become_27 (by decide) ?_
    refine g_icmp_ge X (tgt := 110) dX0_become_29 (by decide) (fun c29 => ?_) (fun c29 => ?_)
    · have hf := it c29 hf
      obtain rfl := lf1 hf
      exact hret 110 _ dX0_become_110
    · have hf := ie c29 hf
      refine g_aload_n X 0 dX0_become_32 rfl rfl ?_
      refine g_getr X (x := ad (f + 1)) f 0 3 dX0_become_33 (F_lt0 hf9) (F_kd0 hf9) (by decide) rfl iw_X0 (by decide) rfl q_fl_X0_21 (F_r3 hf9) ?_
      refine g_iload_n X 2 dX0_become_36 rfl rfl ?_
      refine g_aload_n X 1 dX0_become_37 rfl rfl ?_
      refine g_getr X (x := ad (g + 1)) g 0 3 dX0_become_38 (F_lt0 hg9) (F_kd0 hg9) (by decide) rfl iw_X0 (by decide) rfl q_fl_X0_21 (F_r3 hg9) ?_
      refine g_iload_n X 2 dX0_become_41 rfl rfl ?_
      obtain ⟨h42, hf⟩ := grd hf
      refine g_iald X (g + 1) (n := 6) dX0_become_42 (F_lt1 hg9) (F_kd1 hg9) (F_ln1 hg9) h42 ?_
      obtain ⟨h43, hf⟩ := grd hf
      refine g_iast X (f + 1) (n := 6) dX0_become_43 (F_lt1 hf9) (F_kd1 hf9) (F_ln1 hf9) h43 ?_
      refine g_aload_n X 0 dX0_become_44 rfl rfl ?_
      refine g_getr X (x := ad (f + 2)) f 0 4 dX0_become_45 (F_lt0 hf9) (F_kd0 hf9) (by decide) rfl iw_X0 (by decide) rfl q_fl_X0_25 (F_r4 hf9) ?_
      refine g_iload_n X 2 dX0_become_48 rfl rfl ?_
      refine g_aload_n X 1 dX0_become_49 rfl rfl ?_
      refine g_getr X (x := ad (g + 2)) g 0 4 dX0_become_50 (F_lt0 hg9) (F_kd0 hg9) (by decide) rfl iw_X0 (by decide) rfl q_fl_X0_25 (F_r4 hg9) ?_
      refine g_iload_n X 2 dX0_become_53 rfl rfl ?_
      obtain ⟨h54, hf⟩ := grd hf
      refine g_iald X (g + 2) (n := 6) dX0_become_54 (F_lt2 hg9) (F_kd2 hg9) (F_ln2 hg9) h54 ?_
      obtain ⟨h55, hf⟩ := grd hf
      refine g_iast X (f + 2) (n := 6) dX0_become_55 (F_lt2 hf9) (F_kd2 hf9) (F_ln2 hf9) h55 ?_
      refine g_aload_n X 0 dX0_become_56 rfl rfl ?_
      refine g_getr X (x := ad (f + 3)) f 0 5 dX0_become_57 (F_lt0 hf9) (F_kd0 hf9) (by decide) rfl iw_X0 (by decide) rfl q_fl_X0_28 (F_r5 hf9) ?_
      refine g_iload_n X 2 dX0_become_60 rfl rfl ?_
      refine g_aload_n X 1 dX0_become_61 rfl rfl ?_
      refine g_getr X (x := ad (g + 3)) g 0 5 dX0_become_62 (F_lt0 hg9) (F_kd0 hg9) (by decide) rfl iw_X0 (by decide) rfl q_fl_X0_28 (F_r5 hg9) ?_
      refine g_iload_n X 2 dX0_become_65 rfl rfl ?_
      obtain ⟨h66, hf⟩ := grd hf
      refine g_iald X (g + 3) (n := 6) dX0_become_66 (F_lt3 hg9) (F_kd3 hg9) (F_ln3 hg9) h66 ?_
      obtain ⟨h67, hf⟩ := grd hf
      refine g_iast X (f + 3) (n := 6) dX0_become_67 (F_lt3 hf9) (F_kd3 hf9) (F_ln3 hf9) h67 ?_
      refine g_aload_n X 0 dX0_become_68 rfl rfl ?_
      refine g_getr X (x := ad (f + 4)) f 0 6 dX0_become_69 (F_lt0 hf9) (F_kd0 hf9) (by decide) rfl iw_X0 (by decide) rfl q_fl_X0_31 (F_r6 hf9) ?_
      refine g_iload_n X 2 dX0_become_72 rfl rfl ?_
      refine g_aload_n X 1 dX0_become_73 rfl rfl ?_
      refine g_getr X (x := ad (g + 4)) g 0 6 dX0_become_74 (F_lt0 hg9) (F_kd0 hg9) (by decide) rfl iw_X0 (by decide) rfl q_fl_X0_31 (F_r6 hg9) ?_
      refine g_iload_n X 2 dX0_become_77 rfl rfl ?_
      obtain ⟨h78, hf⟩ := grd hf
      refine g_iald X (g + 4) (n := 6) dX0_become_78 (F_lt4 hg9) (F_kd4 hg9) (F_ln4 hg9) h78 ?_
      obtain ⟨h79, hf⟩ := grd hf
      refine g_iast X (f + 4) (n := 6) dX0_become_79 (F_lt4 hf9) (F_kd4 hf9) (F_ln4 hf9) h79 ?_
      refine g_aload_n X 0 dX0_become_80 rfl rfl ?_
      refine g_getr X (x := ad (f + 5)) f 0 7 dX0_become_81 (F_lt0 hf9) (F_kd0 hf9) (by decide) rfl iw_X0 (by decide) rfl q_fl_X0_34 (F_r7 hf9) ?_
      refine g_iload_n X 2 dX0_become_84 rfl rfl ?_
      refine g_aload_n X 1 dX0_become_85 rfl rfl ?_
      refine g_getr X (x := ad (g + 5)) g 0 7 dX0_become_86 (F_lt0 hg9) (F_kd0 hg9) (by decide) rfl iw_X0 (by decide) rfl q_fl_X0_34 (F_r7 hg9) ?_
      refine g_iload_n X 2 dX0_become_89 rfl rfl ?_
      obtain ⟨h90, hf⟩ := grd hf
      refine g_iald X (g + 5) (n := 6) dX0_become_90 (F_lt5 hg9) (F_kd5 hg9) (F_ln5 hg9) h90 ?_
      obtain ⟨h91, hf⟩ := grd hf
      refine g_iast X (f + 5) (n := 6) dX0_become_91 (F_lt5 hf9) (F_kd5 hf9) (F_ln5 hf9) h91 ?_
      refine g_aload_n X 0 dX0_become_92 rfl rfl ?_
      refine g_getr X (x := ad (f + 6)) f 0 8 dX0_become_93 (F_lt0 hf9) (F_kd0 hf9) (by decide) rfl iw_X0 (by decide) rfl q_fl_X0_37 (F_r8 hf9) ?_
      refine g_iload_n X 2 dX0_become_96 rfl rfl ?_
      refine g_aload_n X 1 dX0_become_97 rfl rfl ?_
      refine g_getr X (x := ad (g + 6)) g 0 8 dX0_become_98 (F_lt0 hg9) (F_kd0 hg9) (by decide) rfl iw_X0 (by decide) rfl q_fl_X0_37 (F_r8 hg9) ?_
      refine g_iload_n X 2 dX0_become_101 rfl rfl ?_
      obtain ⟨h102, hf⟩ := grd hf
      refine g_iald X (g + 6) (n := 6) dX0_become_102 (F_lt6 hg9) (F_kd6 hg9) (F_ln6 hg9) h102 ?_
      obtain ⟨h103, hf⟩ := grd hf
      refine g_iast X (f + 6) (n := 6) dX0_become_103 (F_lt6 hf9) (F_kd6 hf9) (F_ln6 hf9) h103 ?_
      refine g_iinc X 2 (v := v2 + (1 : Int32)) (lv' := [(2, .int (v2 + (1 : Int32))), (0, .ref (ad f)), (1, .ref (ad g))]) dX0_become_104 rfl rfl (by decide) rfl ?_
      refine g_goto X (tgt := 26) dX0_become_107 (by decide) ?_
      refine g_pick [1, 2, 0] (lv' := [(0, .ref (ad f)), (1, .ref (ad g)), (2, .int (v2 + (1 : Int32)))]) rfl ?_
      exact ih (v2 + (1 : Int32)) (pI (pI (pI (pI (pI (pI m0 (f + 1) v2.toNatClampNeg (m0.1 (g + 1) v2.toNatClampNeg)) (f + 2) v2.toNatClampNeg ((pI m0 (f + 1) v2.toNatClampNeg (m0.1 (g + 1) v2.toNatClampNeg)).1 (g + 2) v2.toNatClampNeg)) (f + 3) v2.toNatClampNeg ((pI (pI m0 (f + 1) v2.toNatClampNeg (m0.1 (g + 1) v2.toNatClampNeg)) (f + 2) v2.toNatClampNeg ((pI m0 (f + 1) v2.toNatClampNeg (m0.1 (g + 1) v2.toNatClampNeg)).1 (g + 2) v2.toNatClampNeg)).1 (g + 3) v2.toNatClampNeg)) (f + 4) v2.toNatClampNeg ((pI (pI (pI m0 (f + 1) v2.toNatClampNeg (m0.1 (g + 1) v2.toNatClampNeg)) (f + 2) v2.toNatClampNeg ((pI m0 (f + 1) v2.toNatClampNeg (m0.1 (g + 1) v2.toNatClampNeg)).1 (g + 2) v2.toNatClampNeg)) (f + 3) v2.toNatClampNeg ((pI (pI m0 (f + 1) v2.toNatClampNeg (m0.1 (g + 1) v2.toNatClampNeg)) (f + 2) v2.toNatClampNeg ((pI m0 (f + 1) v2.toNatClampNeg (m0.1 (g + 1) v2.toNatClampNeg)).1 (g + 2) v2.toNatClampNeg)).1 (g + 3) v2.toNatClampNeg)).1 (g + 4) v2.toNatClampNeg)) (f + 5) v2.toNatClampNeg ((pI (pI (pI (pI m0 (f + 1) v2.toNatClampNeg (m0.1 (g + 1) v2.toNatClampNeg)) (f + 2) v2.toNatClampNeg ((pI m0 (f + 1) v2.toNatClampNeg (m0.1 (g + 1) v2.toNatClampNeg)).1 (g + 2) v2.toNatClampNeg)) (f + 3) v2.toNatClampNeg ((pI (pI m0 (f + 1) v2.toNatClampNeg (m0.1 (g + 1) v2.toNatClampNeg)) (f + 2) v2.toNatClampNeg ((pI m0 (f + 1) v2.toNatClampNeg (m0.1 (g + 1) v2.toNatClampNeg)).1 (g + 2) v2.toNatClampNeg)).1 (g + 3) v2.toNatClampNeg)) (f + 4) v2.toNatClampNeg ((pI (pI (pI m0 (f + 1) v2.toNatClampNeg (m0.1 (g + 1) v2.toNatClampNeg)) (f + 2) v2.toNatClampNeg ((pI m0 (f + 1) v2.toNatClampNeg (m0.1 (g + 1) v2.toNatClampNeg)).1 (g + 2) v2.toNatClampNeg)) (f + 3) v2.toNatClampNeg ((pI (pI m0 (f + 1) v2.toNatClampNeg (m0.1 (g + 1) v2.toNatClampNeg)) (f + 2) v2.toNatClampNeg ((pI m0 (f + 1) v2.toNatClampNeg (m0.1 (g + 1) v2.toNatClampNeg)).1 (g + 2) v2.toNatClampNeg)).1 (g + 3) v2.toNatClampNeg)).1 (g + 4) v2.toNatClampNeg)).1 (g + 5) v2.toNatClampNeg)) (f + 6) v2.toNatClampNeg ((pI (pI (pI (pI (pI m0 (f + 1) v2.toNatClampNeg (m0.1 (g + 1) v2.toNatClampNeg)) (f + 2) v2.toNatClampNeg ((pI m0 (f + 1) v2.toNatClampNeg (m0.1 (g + 1) v2.toNatClampNeg)).1 (g + 2) v2.toNatClampNeg)) (f + 3) v2.toNatClampNeg ((pI (pI m0 (f + 1) v2.toNatClampNeg (m0.1 (g + 1) v2.toNatClampNeg)) (f + 2) v2.toNatClampNeg ((pI m0 (f + 1) v2.toNatClampNeg (m0.1 (g + 1) v2.toNatClampNeg)).1 (g + 2) v2.toNatClampNeg)).1 (g + 3) v2.toNatClampNeg)) (f + 4) v2.toNatClampNeg ((pI (pI (pI m0 (f + 1) v2.toNatClampNeg (m0.1 (g + 1) v2.toNatClampNeg)) (f + 2) v2.toNatClampNeg ((pI m0 (f + 1) v2.toNatClampNeg (m0.1 (g + 1) v2.toNatClampNeg)).1 (g + 2) v2.toNatClampNeg)) (f + 3) v2.toNatClampNeg ((pI (pI m0 (f + 1) v2.toNatClampNeg (m0.1 (g + 1) v2.toNatClampNeg)) (f + 2) v2.toNatClampNeg ((pI m0 (f + 1) v2.toNatClampNeg (m0.1 (g + 1) v2.toNatClampNeg)).1 (g + 2) v2.toNatClampNeg)).1 (g + 3) v2.toNatClampNeg)).1 (g + 4) v2.toNatClampNeg)) (f + 5) v2.toNatClampNeg ((pI (pI (pI (pI m0 (f + 1) v2.toNatClampNeg (m0.1 (g + 1) v2.toNatClampNeg)) (f + 2) v2.toNatClampNeg ((pI m0 (f + 1) v2.toNatClampNeg (m0.1 (g + 1) v2.toNatClampNeg)).1 (g + 2) v2.toNatClampNeg)) (f + 3) v2.toNatClampNeg ((pI (pI m0 (f + 1) v2.toNatClampNeg (m0.1 (g + 1) v2.toNatClampNeg)) (f + 2) v2.toNatClampNeg ((pI m0 (f + 1) v2.toNatClampNeg (m0.1 (g + 1) v2.toNatClampNeg)).1 (g + 2) v2.toNatClampNeg)).1 (g + 3) v2.toNatClampNeg)) (f + 4) v2.toNatClampNeg ((pI (pI (pI m0 (f + 1) v2.toNatClampNeg (m0.1 (g + 1) v2.toNatClampNeg)) (f + 2) v2.toNatClampNeg ((pI m0 (f + 1) v2.toNatClampNeg (m0.1 (g + 1) v2.toNatClampNeg)).1 (g + 2) v2.toNatClampNeg)) (f + 3) v2.toNatClampNeg ((pI (pI m0 (f + 1) v2.toNatClampNeg (m0.1 (g + 1) v2.toNatClampNeg)) (f + 2) v2.toNatClampNeg ((pI m0 (f + 1) v2.toNatClampNeg (m0.1 (g + 1) v2.toNatClampNeg)).1 (g + 2) v2.toNatClampNeg)).1 (g + 3) v2.toNatClampNeg)).1 (g + 4) v2.toNatClampNeg)).1 (g + 5) v2.toNatClampNeg)).1 (g + 6) v2.toNatClampNeg)) hf
set_option maxRecDepth 100000 in
set_option maxHeartbeats 4000000 in
theorem c_X0_become {l : Launch} {G : GG} {b : Nat} {ad : Nat → Nat} {nt : Nat} {z : Nat → Nat} {f : Nat} {g : Nat} {m0 : Mem} {m9 : Mem} (hf9 : isF f) (hg9 : isF g) (hf : X0_become f g m0 = some m9) : MtV l yX0_become cX0_become 3 (none) rmX0_become G b (sg ad nt z) m0 [.ref (ad f), .ref (ad g)] (pEV (sg ad nt z) m9) := by
  refine mtV_of (by decide) (Nat.le_of_ble_eq_true rfl) rfl (fun Γ hG X hnm hr => ?_)
  have hret : ∀ (pc : Nat) (lv : List (Nat × Value)), decode cX0_become pc = .ok (.return_, 1) → Go Γ b (sg ad nt z) 0 0 pc lv [] m9 := fun pc lv d => hr pc lv _ _ d ⟨rfl, rfl⟩
  show Go Γ b (sg ad nt z) 0 0 0 [(0, .ref (ad f)), (1, .ref (ad g))] [] m0
  refine g_aload_n X 0 dX0_become_0 rfl rfl ?_
  refine g_aload_n X 1 dX0_become_1 rfl rfl ?_
  refine g_getI X g 0 0 dX0_become_2 (F_lt0 hg9) (F_kd0 hg9) (by decide) rfl iw_X0 (by decide) rfl q_fl_X0_9 ?_
  refine g_putI X (tyf := tyX0) f 0 0 dX0_become_5 (F_lt0 hf9) (F_kd0 hf9) (by decide) rfl iw_X0 (by decide) rfl q_fl_X0_9 tyX0_ok nmX0 rfl rfl rfl ?_
  refine g_aload_n X 0 dX0_become_8 rfl rfl ?_
  refine g_aload_n X 1 dX0_become_9 rfl rfl ?_
  refine g_getI X g 0 1 dX0_become_10 (F_lt0 hg9) (F_kd0 hg9) (by decide) rfl iw_X0 (by decide) rfl q_fl_X0_15 ?_
  refine g_putI X (tyf := tyX0) f 0 1 dX0_become_13 (F_lt0 hf9) (F_kd0 hf9) (by decide) rfl iw_X0 (by decide) rfl q_fl_X0_15 tyX0_ok nmX0 rfl rfl rfl ?_
  refine g_aload_n X 0 dX0_become_16 rfl rfl ?_
  refine g_aload_n X 1 dX0_become_17 rfl rfl ?_
  refine g_getI X g 0 2 dX0_become_18 (F_lt0 hg9) (F_kd0 hg9) (by decide) rfl iw_X0 (by decide) rfl q_fl_X0_18 ?_
  refine g_putI X (tyf := tyX0) f 0 2 dX0_become_21 (F_lt0 hf9) (F_kd0 hf9) (by decide) rfl iw_X0 (by decide) rfl q_fl_X0_18 tyX0_ok nmX0 rfl rfl rfl ?_
  refine g_iconst X (v := 0) dX0_become_24 (by decide) ?_
  refine g_istore_n X (lv' := [(2, .int (0 : Int32)), (0, .ref (ad f)), (1, .ref (ad g))]) dX0_become_25 rfl (by decide) rfl ?_
  refine g_pick [1, 2, 0] (lv' := [(0, .ref (ad f)), (1, .ref (ad g)), (2, .int (0 : Int32))]) rfl ?_
  exact w_X0_become_26 hf9 hg9 X hret 10000 (0 : Int32) (pI (pI (pI m0 f 0 (m0.1 g 0)) f 1 ((pI m0 f 0 (m0.1 g 0)).1 g 1)) f 2 ((pI (pI m0 f 0 (m0.1 g 0)) f 1 ((pI m0 f 0 (m0.1 g 0)).1 g 1)).1 g 2)) hf

def X0_row (f : Nat) (p0 : Int32) (m0 : Mem) : Option (Option Nat × Mem) :=
  if p0 = (1 : Int32) then
    some (some (f + 2), m0)
  else
    if p0 = (2 : Int32) then
      some (some (f + 3), m0)
    else
      if p0 = (3 : Int32) then
        some (some (f + 4), m0)
      else
        if p0 = (4 : Int32) then
          some (some (f + 5), m0)
        else
          if p0 = (5 : Int32) then
            some (some (f + 1), m0)
          else
            some (some (f + 6), m0)
abbrev rmX0_row : Room := { frames := 0, cells := 0, slots := 0, locals := 0 }

set_option maxRecDepth 100000 in
set_option maxHeartbeats 4000000 in
theorem c_X0_row {l : Launch} {G : GG} {b : Nat} {ad : Nat → Nat} {nt : Nat} {z : Nat → Nat} {f : Nat} {p0 : Int32} {m0 : Mem} {r9 : Option Nat} {m9 : Mem} (hf9 : isF f) (hf : X0_row f p0 m0 = some (r9, m9)) : MtQ l yX0_row cX0_row 2 (some (.array .int)) rmX0_row G b (sg ad nt z) m0 [.ref (ad f), .int p0] (pEQ (r9.map ad) (sg ad nt z) m9) := by
  refine mtQ_of (by decide) (Nat.le_of_ble_eq_true rfl) ((.array .int)) rfl (by first | exact Or.inl ⟨_, rfl⟩ | exact Or.inr ⟨_, rfl⟩) (fun Γ hG X hnm hr => ?_)
  have hret : ∀ (pc : Nat) (lv : List (Nat × Value)), decode cX0_row pc = .ok (.areturn, 1) → Go Γ b (sg ad nt z) 0 0 pc lv [va_rf (r9.map ad)] m9 := fun pc lv d => hr pc lv _ _ _ d ⟨rfl, rfl, rfl⟩
  show Go Γ b (sg ad nt z) 0 0 0 [(0, .ref (ad f)), (1, .int p0)] [] m0
  refine g_iload_n X 1 dX0_row_0 rfl rfl ?_
  by_cases c1_0 : p0 = (1 : Int32)
  · have hf := it c1_0 hf
    refine g_tblIn X (tgt := 36) dX0_row_1 (by rw [c1_0]; decide) (by rw [c1_0]; decide) (off := 35) (by rw [c1_0]; rfl) (by decide) ?_
    refine g_aload_n X 0 dX0_row_36 rfl rfl ?_
    refine g_getr X (x := ad (f + 2)) f 0 4 dX0_row_37 (F_lt0 hf9) (F_kd0 hf9) (by decide) rfl iw_X0 (by decide) rfl q_fl_X0_25 (F_r4 hf9) ?_
    obtain ⟨rfl, rfl⟩ := lf2 hf
    exact hret 40 _ dX0_row_40
  · have hf := ie c1_0 hf
    by_cases c1_1 : p0 = (2 : Int32)
    · have hf := it c1_1 hf
      refine g_tblIn X (tgt := 41) dX0_row_1 (by rw [c1_1]; decide) (by rw [c1_1]; decide) (off := 40) (by rw [c1_1]; rfl) (by decide) ?_
      refine g_aload_n X 0 dX0_row_41 rfl rfl ?_
      refine g_getr X (x := ad (f + 3)) f 0 5 dX0_row_42 (F_lt0 hf9) (F_kd0 hf9) (by decide) rfl iw_X0 (by decide) rfl q_fl_X0_28 (F_r5 hf9) ?_
      obtain ⟨rfl, rfl⟩ := lf2 hf
      exact hret 45 _ dX0_row_45
    · have hf := ie c1_1 hf
      by_cases c1_2 : p0 = (3 : Int32)
      · have hf := it c1_2 hf
        refine g_tblIn X (tgt := 46) dX0_row_1 (by rw [c1_2]; decide) (by rw [c1_2]; decide) (off := 45) (by rw [c1_2]; rfl) (by decide) ?_
        refine g_aload_n X 0 dX0_row_46 rfl rfl ?_
        refine g_getr X (x := ad (f + 4)) f 0 6 dX0_row_47 (F_lt0 hf9) (F_kd0 hf9) (by decide) rfl iw_X0 (by decide) rfl q_fl_X0_31 (F_r6 hf9) ?_
        obtain ⟨rfl, rfl⟩ := lf2 hf
        exact hret 50 _ dX0_row_50
      · have hf := ie c1_2 hf
        by_cases c1_3 : p0 = (4 : Int32)
        · have hf := it c1_3 hf
          refine g_tblIn X (tgt := 51) dX0_row_1 (by rw [c1_3]; decide) (by rw [c1_3]; decide) (off := 50) (by rw [c1_3]; rfl) (by decide) ?_
          refine g_aload_n X 0 dX0_row_51 rfl rfl ?_
          refine g_getr X (x := ad (f + 5)) f 0 7 dX0_row_52 (F_lt0 hf9) (F_kd0 hf9) (by decide) rfl iw_X0 (by decide) rfl q_fl_X0_34 (F_r7 hf9) ?_
          obtain ⟨rfl, rfl⟩ := lf2 hf
          exact hret 55 _ dX0_row_55
        · have hf := ie c1_3 hf
          by_cases c1_4 : p0 = (5 : Int32)
          · have hf := it c1_4 hf
            refine g_tblIn X (tgt := 56) dX0_row_1 (by rw [c1_4]; decide) (by rw [c1_4]; decide) (off := 55) (by rw [c1_4]; rfl) (by decide) ?_
            refine g_aload_n X 0 dX0_row_56 rfl rfl ?_
            refine g_getr X (x := ad (f + 1)) f 0 3 dX0_row_57 (F_lt0 hf9) (F_kd0 hf9) (by decide) rfl iw_X0 (by decide) rfl q_fl_X0_21 (F_r3 hf9) ?_
            obtain ⟨rfl, rfl⟩ := lf2 hf
            exact hret 60 _ dX0_row_60
          · have hf := ie c1_4 hf
            refine g_tblOut X (tgt := 61) dX0_row_1 (by have g0 := lv_neT (a := 1) c1_0 rfl; have g1 := lv_neT (a := 2) c1_1 rfl; have g2 := lv_neT (a := 3) c1_2 rfl; have g3 := lv_neT (a := 4) c1_3 rfl; have g4 := lv_neT (a := 5) c1_4 rfl; omega) (by decide) ?_
            refine g_aload_n X 0 dX0_row_61 rfl rfl ?_
            refine g_getr X (x := ad (f + 6)) f 0 8 dX0_row_62 (F_lt0 hf9) (F_kd0 hf9) (by decide) rfl iw_X0 (by decide) rfl q_fl_X0_37 (F_r8 hf9) ?_
            obtain ⟨rfl, rfl⟩ := lf2 hf
            exact hret 65 _ dX0_row_65

theorem rowOk {f : Nat} {w : Int32} {m m1 : Mem} {r : Option Nat} (hf9 : isF f) (h : X0_row f w m = some (r, m1)) : ∀ a, r = some a → isA a := by
  intro a ha
  subst ha
  have key : ∀ j, 1 ≤ j → j ≤ 6 → isA (f + j) := by
    intro j h1 h2
    rcases (show j = 1 ∨ j = 2 ∨ j = 3 ∨ j = 4 ∨ j = 5 ∨ j = 6 by omega) with rfl | rfl | rfl | rfl | rfl | rfl <;> rcases hf9 with rfl | rfl | rfl <;> exact ⟨by decide, rfl, by decide, rfl⟩
  unfold X0_row at h
  repeat' split at h
  all_goals (obtain ⟨h1, -⟩ := lf2 h; rw [Option.some.inj h1]; exact key _ (by decide) (by decide))

def X0_isKnown (f : Nat) (p0 : Int32) (p1 : Int32) (m0 : Mem) : Option (Int32 × Mem) :=
  if inn p0 6 then
  if (((m0.1 (f + 4) p0.toNatClampNeg) >>> (p1 &&& 31)) &&& (1 : Int32)) = 0 then
    some ((0 : Int32), m0)
  else
    some ((1 : Int32), m0)
  else none
abbrev rmX0_isKnown : Room := { frames := 0, cells := 0, slots := 0, locals := 0 }

set_option maxRecDepth 100000 in
set_option maxHeartbeats 4000000 in
theorem c_X0_isKnown {l : Launch} {G : GG} {b : Nat} {ad : Nat → Nat} {nt : Nat} {z : Nat → Nat} {f : Nat} {p0 : Int32} {p1 : Int32} {m0 : Mem} {r9 : Int32} {m9 : Mem} (hf9 : isF f) (hf : X0_isKnown f p0 p1 m0 = some (r9, m9)) : MtI l yX0_isKnown cX0_isKnown 3 (some .boolean) rmX0_isKnown G b (sg ad nt z) m0 [.ref (ad f), .int p0, .int p1] (pEI r9 (sg ad nt z) m9) := by
  refine mtI_of (by decide) (Nat.le_of_ble_eq_true rfl) .boolean rfl (fun Γ hG X hnm hr => ?_)
  have hret : ∀ (pc : Nat) (lv : List (Nat × Value)), decode cX0_isKnown pc = .ok (.ireturn, 1) → narrow .boolean (.int r9) = .int r9 → Go Γ b (sg ad nt z) 0 0 pc lv [.int r9] m9 := fun pc lv d hn => hr pc lv _ _ _ d ⟨rfl, rfl, rfl⟩ hn
  show Go Γ b (sg ad nt z) 0 0 0 [(0, .ref (ad f)), (1, .int p0), (2, .int p1)] [] m0
  refine g_aload_n X 0 dX0_isKnown_0 rfl rfl ?_
  refine g_getr X (x := ad (f + 4)) f 0 6 dX0_isKnown_1 (F_lt0 hf9) (F_kd0 hf9) (by decide) rfl iw_X0 (by decide) rfl q_fl_X0_31 (F_r6 hf9) ?_
  refine g_iload_n X 1 dX0_isKnown_4 rfl rfl ?_
  obtain ⟨h5, hf⟩ := grd hf
  refine g_iald X (f + 4) (n := 6) dX0_isKnown_5 (F_lt4 hf9) (F_kd4 hf9) (F_ln4 hf9) h5 ?_
  refine g_iload_n X 2 dX0_isKnown_6 rfl rfl ?_
  refine g_ishr X dX0_isKnown_7 ?_
  refine g_iconst X (v := 1) dX0_isKnown_8 (by decide) ?_
  refine g_iand X dX0_isKnown_9 ?_
  refine g_if_eq X (tgt := 17) dX0_isKnown_10 (by decide) (fun c10 => ?_) (fun c10 => ?_)
  · have hf := it c10 hf
    refine g_iconst X (v := 0) dX0_isKnown_17 (by decide) ?_
    obtain ⟨rfl, rfl⟩ := lf2 hf
    exact hret 18 _ dX0_isKnown_18 rfl
  · have hf := ie c10 hf
    refine g_iconst X (v := 1) dX0_isKnown_13 (by decide) ?_
    refine g_goto X (tgt := 18) dX0_isKnown_14 (by decide) ?_
    obtain ⟨rfl, rfl⟩ := lf2 hf
    exact hret 18 _ dX0_isKnown_18 rfl

def X0_spend (f : Nat) (p0 : Int32) (p1 : Int32) (m0 : Mem) : Option (Mem) :=
  if inn p0 6 then
  if inn p0 6 then
  some (pI m0 (f + 6) p0.toNatClampNeg (if ((m0.1 (f + 6) p0.toNatClampNeg) + p1) < (99999 : Int32) then ((m0.1 (f + 6) p0.toNatClampNeg) + p1) else (99999 : Int32)))
  else none
  else none
abbrev rmX0_spend : Room := { frames := 1, cells := 0, slots := 0, locals := 60 }

set_option maxRecDepth 100000 in
set_option maxHeartbeats 4000000 in
theorem c_X0_spend {l : Launch} {G : GG} {b : Nat} {ad : Nat → Nat} {nt : Nat} {z : Nat → Nat} {f : Nat} {p0 : Int32} {p1 : Int32} {m0 : Mem} {m9 : Mem} (hf9 : isF f) (hf : X0_spend f p0 p1 m0 = some m9) : MtV l yX0_spend cX0_spend 3 (none) rmX0_spend G b (sg ad nt z) m0 [.ref (ad f), .int p0, .int p1] (pEV (sg ad nt z) m9) := by
  refine mtV_of (by decide) (Nat.le_of_ble_eq_true rfl) rfl (fun Γ hG X hnm hr => ?_)
  have hret : ∀ (pc : Nat) (lv : List (Nat × Value)), decode cX0_spend pc = .ok (.return_, 1) → Go Γ b (sg ad nt z) 0 0 pc lv [] m9 := fun pc lv d => hr pc lv _ _ d ⟨rfl, rfl⟩
  show Go Γ b (sg ad nt z) 0 0 0 [(0, .ref (ad f)), (1, .int p0), (2, .int p1)] [] m0
  refine g_aload_n X 0 dX0_spend_0 rfl rfl ?_
  refine g_getr X (x := ad (f + 6)) f 0 8 dX0_spend_1 (F_lt0 hf9) (F_kd0 hf9) (by decide) rfl iw_X0 (by decide) rfl q_fl_X0_37 (F_r8 hf9) ?_
  refine g_iload_n X 1 dX0_spend_4 rfl rfl ?_
  refine g_ldc X dX0_spend_5 q_cn_X0_40 ?_
  refine g_aload_n X 0 dX0_spend_7 rfl rfl ?_
  refine g_getr X (x := ad (f + 6)) f 0 8 dX0_spend_8 (F_lt0 hf9) (F_kd0 hf9) (by decide) rfl iw_X0 (by decide) rfl q_fl_X0_37 (F_r8 hf9) ?_
  refine g_iload_n X 1 dX0_spend_11 rfl rfl ?_
  obtain ⟨h12, hf⟩ := grd hf
  refine g_iald X (f + 6) (n := 6) dX0_spend_12 (F_lt6 hf9) (F_kd6 hf9) (F_ln6 hf9) h12 ?_
  refine g_iload_n X 2 dX0_spend_13 rfl rfl ?_
  refine g_iadd X dX0_spend_14 ?_
  refine g_mmin X dX0_spend_15 q_ml_X0_41 q_st_yJ9_min_7cf53 q_in_J9 q_co_yJ9_min_7cf53 (Nat.le_of_ble_eq_true rfl) (Nat.le_of_ble_eq_true rfl) ⟨Nat.zero_le _, Nat.zero_le _⟩ ?_
  obtain ⟨h18, hf⟩ := grd hf
  refine g_iast X (f + 6) (n := 6) dX0_spend_18 (F_lt6 hf9) (F_kd6 hf9) (F_ln6 hf9) h18 ?_
  obtain rfl := lf1 hf
  exact hret 19 _ dX0_spend_19

def J6_bitCount_0f7a4 (p0 : Int32) (m0 : Mem) : Option (Int32 × Mem) :=
  some ((((((((p0 - (((p0.toUInt32 >>> ((1 : Int32).toUInt32 &&& Int32.toUInt32 31)).toInt32) &&& (1431655765 : Int32))) &&& (858993459 : Int32)) + ((((p0 - (((p0.toUInt32 >>> ((1 : Int32).toUInt32 &&& Int32.toUInt32 31)).toInt32) &&& (1431655765 : Int32))).toUInt32 >>> ((2 : Int32).toUInt32 &&& Int32.toUInt32 31)).toInt32) &&& (858993459 : Int32))) + (((((p0 - (((p0.toUInt32 >>> ((1 : Int32).toUInt32 &&& Int32.toUInt32 31)).toInt32) &&& (1431655765 : Int32))) &&& (858993459 : Int32)) + ((((p0 - (((p0.toUInt32 >>> ((1 : Int32).toUInt32 &&& Int32.toUInt32 31)).toInt32) &&& (1431655765 : Int32))).toUInt32 >>> ((2 : Int32).toUInt32 &&& Int32.toUInt32 31)).toInt32) &&& (858993459 : Int32))).toUInt32 >>> ((4 : Int32).toUInt32 &&& Int32.toUInt32 31)).toInt32)) &&& (252645135 : Int32)) + (((((((p0 - (((p0.toUInt32 >>> ((1 : Int32).toUInt32 &&& Int32.toUInt32 31)).toInt32) &&& (1431655765 : Int32))) &&& (858993459 : Int32)) + ((((p0 - (((p0.toUInt32 >>> ((1 : Int32).toUInt32 &&& Int32.toUInt32 31)).toInt32) &&& (1431655765 : Int32))).toUInt32 >>> ((2 : Int32).toUInt32 &&& Int32.toUInt32 31)).toInt32) &&& (858993459 : Int32))) + (((((p0 - (((p0.toUInt32 >>> ((1 : Int32).toUInt32 &&& Int32.toUInt32 31)).toInt32) &&& (1431655765 : Int32))) &&& (858993459 : Int32)) + ((((p0 - (((p0.toUInt32 >>> ((1 : Int32).toUInt32 &&& Int32.toUInt32 31)).toInt32) &&& (1431655765 : Int32))).toUInt32 >>> ((2 : Int32).toUInt32 &&& Int32.toUInt32 31)).toInt32) &&& (858993459 : Int32))).toUInt32 >>> ((4 : Int32).toUInt32 &&& Int32.toUInt32 31)).toInt32)) &&& (252645135 : Int32)).toUInt32 >>> ((8 : Int32).toUInt32 &&& Int32.toUInt32 31)).toInt32)) + ((((((((p0 - (((p0.toUInt32 >>> ((1 : Int32).toUInt32 &&& Int32.toUInt32 31)).toInt32) &&& (1431655765 : Int32))) &&& (858993459 : Int32)) + ((((p0 - (((p0.toUInt32 >>> ((1 : Int32).toUInt32 &&& Int32.toUInt32 31)).toInt32) &&& (1431655765 : Int32))).toUInt32 >>> ((2 : Int32).toUInt32 &&& Int32.toUInt32 31)).toInt32) &&& (858993459 : Int32))) + (((((p0 - (((p0.toUInt32 >>> ((1 : Int32).toUInt32 &&& Int32.toUInt32 31)).toInt32) &&& (1431655765 : Int32))) &&& (858993459 : Int32)) + ((((p0 - (((p0.toUInt32 >>> ((1 : Int32).toUInt32 &&& Int32.toUInt32 31)).toInt32) &&& (1431655765 : Int32))).toUInt32 >>> ((2 : Int32).toUInt32 &&& Int32.toUInt32 31)).toInt32) &&& (858993459 : Int32))).toUInt32 >>> ((4 : Int32).toUInt32 &&& Int32.toUInt32 31)).toInt32)) &&& (252645135 : Int32)) + (((((((p0 - (((p0.toUInt32 >>> ((1 : Int32).toUInt32 &&& Int32.toUInt32 31)).toInt32) &&& (1431655765 : Int32))) &&& (858993459 : Int32)) + ((((p0 - (((p0.toUInt32 >>> ((1 : Int32).toUInt32 &&& Int32.toUInt32 31)).toInt32) &&& (1431655765 : Int32))).toUInt32 >>> ((2 : Int32).toUInt32 &&& Int32.toUInt32 31)).toInt32) &&& (858993459 : Int32))) + (((((p0 - (((p0.toUInt32 >>> ((1 : Int32).toUInt32 &&& Int32.toUInt32 31)).toInt32) &&& (1431655765 : Int32))) &&& (858993459 : Int32)) + ((((p0 - (((p0.toUInt32 >>> ((1 : Int32).toUInt32 &&& Int32.toUInt32 31)).toInt32) &&& (1431655765 : Int32))).toUInt32 >>> ((2 : Int32).toUInt32 &&& Int32.toUInt32 31)).toInt32) &&& (858993459 : Int32))).toUInt32 >>> ((4 : Int32).toUInt32 &&& Int32.toUInt32 31)).toInt32)) &&& (252645135 : Int32)).toUInt32 >>> ((8 : Int32).toUInt32 &&& Int32.toUInt32 31)).toInt32)).toUInt32 >>> ((16 : Int32).toUInt32 &&& Int32.toUInt32 31)).toInt32)) &&& (63 : Int32), m0)
abbrev rmJ6_bitCount_0f7a4 : Room := { frames := 0, cells := 0, slots := 0, locals := 0 }

set_option maxRecDepth 100000 in
set_option maxHeartbeats 4000000 in
theorem c_J6_bitCount_0f7a4 {l : Launch} {G : GG} {b : Nat} {σ : St} {p0 : Int32} {m0 : Mem} {r9 : Int32} {m9 : Mem} (hf : J6_bitCount_0f7a4 p0 m0 = some (r9, m9)) : MtI l yJ6_bitCount_0f7a4 cJ6_bitCount_0f7a4 1 (some .int) rmJ6_bitCount_0f7a4 G b σ m0 [.int p0] (pEI r9 σ m9) := by
  refine mtI_of (by decide) (Nat.le_of_ble_eq_true rfl) .int rfl (fun Γ hG X hnm hr => ?_)
  have hret : ∀ (pc : Nat) (lv : List (Nat × Value)), decode cJ6_bitCount_0f7a4 pc = .ok (.ireturn, 1) → narrow .int (.int r9) = .int r9 → Go Γ b σ 0 0 pc lv [.int r9] m9 := fun pc lv d hn => hr pc lv _ _ _ d ⟨rfl, rfl, rfl⟩ hn
  show Go Γ b σ 0 0 0 [(0, .int p0)] [] m0
  refine g_iload_n X 0 dJ6_bitCount_0f7a4_0 rfl rfl ?_
  refine g_iload_n X 0 dJ6_bitCount_0f7a4_1 rfl rfl ?_
  refine g_iconst X (v := 1) dJ6_bitCount_0f7a4_2 (by decide) ?_
  refine g_iushr X dJ6_bitCount_0f7a4_3 ?_
  refine g_ldc_w X dJ6_bitCount_0f7a4_4 q_cn_J6_265 ?_
  refine g_iand X dJ6_bitCount_0f7a4_7 ?_
  refine g_isub X dJ6_bitCount_0f7a4_8 ?_
  refine g_istore_n X (lv' := [(0, .int (p0 - (((p0.toUInt32 >>> ((1 : Int32).toUInt32 &&& Int32.toUInt32 31)).toInt32) &&& (1431655765 : Int32))))]) dJ6_bitCount_0f7a4_9 rfl (by decide) rfl ?_
  refine g_iload_n X 0 dJ6_bitCount_0f7a4_10 rfl rfl ?_
  refine g_ldc_w X dJ6_bitCount_0f7a4_11 q_cn_J6_266 ?_
  refine g_iand X dJ6_bitCount_0f7a4_14 ?_
  refine g_iload_n X 0 dJ6_bitCount_0f7a4_15 rfl rfl ?_
  refine g_iconst X (v := 2) dJ6_bitCount_0f7a4_16 (by decide) ?_
  refine g_iushr X dJ6_bitCount_0f7a4_17 ?_
  refine g_ldc_w X dJ6_bitCount_0f7a4_18 q_cn_J6_266 ?_
  refine g_iand X dJ6_bitCount_0f7a4_21 ?_
  refine g_iadd X dJ6_bitCount_0f7a4_22 ?_
  refine g_istore_n X (lv' := [(0, .int (((p0 - (((p0.toUInt32 >>> ((1 : Int32).toUInt32 &&& Int32.toUInt32 31)).toInt32) &&& (1431655765 : Int32))) &&& (858993459 : Int32)) + ((((p0 - (((p0.toUInt32 >>> ((1 : Int32).toUInt32 &&& Int32.toUInt32 31)).toInt32) &&& (1431655765 : Int32))).toUInt32 >>> ((2 : Int32).toUInt32 &&& Int32.toUInt32 31)).toInt32) &&& (858993459 : Int32))))]) dJ6_bitCount_0f7a4_23 rfl (by decide) rfl ?_
  refine g_iload_n X 0 dJ6_bitCount_0f7a4_24 rfl rfl ?_
  refine g_iload_n X 0 dJ6_bitCount_0f7a4_25 rfl rfl ?_
  refine g_iconst X (v := 4) dJ6_bitCount_0f7a4_26 (by decide) ?_
  refine g_iushr X dJ6_bitCount_0f7a4_27 ?_
  refine g_iadd X dJ6_bitCount_0f7a4_28 ?_
  refine g_ldc_w X dJ6_bitCount_0f7a4_29 q_cn_J6_267 ?_
  refine g_iand X dJ6_bitCount_0f7a4_32 ?_
  refine g_istore_n X (lv' := [(0, .int (((((p0 - (((p0.toUInt32 >>> ((1 : Int32).toUInt32 &&& Int32.toUInt32 31)).toInt32) &&& (1431655765 : Int32))) &&& (858993459 : Int32)) + ((((p0 - (((p0.toUInt32 >>> ((1 : Int32).toUInt32 &&& Int32.toUInt32 31)).toInt32) &&& (1431655765 : Int32))).toUInt32 >>> ((2 : Int32).toUInt32 &&& Int32.toUInt32 31)).toInt32) &&& (858993459 : Int32))) + (((((p0 - (((p0.toUInt32 >>> ((1 : Int32).toUInt32 &&& Int32.toUInt32 31)).toInt32) &&& (1431655765 : Int32))) &&& (858993459 : Int32)) + ((((p0 - (((p0.toUInt32 >>> ((1 : Int32).toUInt32 &&& Int32.toUInt32 31)).toInt32) &&& (1431655765 : Int32))).toUInt32 >>> ((2 : Int32).toUInt32 &&& Int32.toUInt32 31)).toInt32) &&& (858993459 : Int32))).toUInt32 >>> ((4 : Int32).toUInt32 &&& Int32.toUInt32 31)).toInt32)) &&& (252645135 : Int32)))]) dJ6_bitCount_0f7a4_33 rfl (by decide) rfl ?_
  refine g_iload_n X 0 dJ6_bitCount_0f7a4_34 rfl rfl ?_
  refine g_iload_n X 0 dJ6_bitCount_0f7a4_35 rfl rfl ?_
  refine g_bipush X (v := 8) dJ6_bitCount_0f7a4_36 (by decide) ?_
  refine g_iushr X dJ6_bitCount_0f7a4_38 ?_
  refine g_iadd X dJ6_bitCount_0f7a4_39 ?_
  refine g_istore_n X (lv' := [(0, .int ((((((p0 - (((p0.toUInt32 >>> ((1 : Int32).toUInt32 &&& Int32.toUInt32 31)).toInt32) &&& (1431655765 : Int32))) &&& (858993459 : Int32)) + ((((p0 - (((p0.toUInt32 >>> ((1 : Int32).toUInt32 &&& Int32.toUInt32 31)).toInt32) &&& (1431655765 : Int32))).toUInt32 >>> ((2 : Int32).toUInt32 &&& Int32.toUInt32 31)).toInt32) &&& (858993459 : Int32))) + (((((p0 - (((p0.toUInt32 >>> ((1 : Int32).toUInt32 &&& Int32.toUInt32 31)).toInt32) &&& (1431655765 : Int32))) &&& (858993459 : Int32)) + ((((p0 - (((p0.toUInt32 >>> ((1 : Int32).toUInt32 &&& Int32.toUInt32 31)).toInt32) &&& (1431655765 : Int32))).toUInt32 >>> ((2 : Int32).toUInt32 &&& Int32.toUInt32 31)).toInt32) &&& (858993459 : Int32))).toUInt32 >>> ((4 : Int32).toUInt32 &&& Int32.toUInt32 31)).toInt32)) &&& (252645135 : Int32)) + (((((((p0 - (((p0.toUInt32 >>> ((1 : Int32).toUInt32 &&& Int32.toUInt32 31)).toInt32) &&& (1431655765 : Int32))) &&& (858993459 : Int32)) + ((((p0 - (((p0.toUInt32 >>> ((1 : Int32).toUInt32 &&& Int32.toUInt32 31)).toInt32) &&& (1431655765 : Int32))).toUInt32 >>> ((2 : Int32).toUInt32 &&& Int32.toUInt32 31)).toInt32) &&& (858993459 : Int32))) + (((((p0 - (((p0.toUInt32 >>> ((1 : Int32).toUInt32 &&& Int32.toUInt32 31)).toInt32) &&& (1431655765 : Int32))) &&& (858993459 : Int32)) + ((((p0 - (((p0.toUInt32 >>> ((1 : Int32).toUInt32 &&& Int32.toUInt32 31)).toInt32) &&& (1431655765 : Int32))).toUInt32 >>> ((2 : Int32).toUInt32 &&& Int32.toUInt32 31)).toInt32) &&& (858993459 : Int32))).toUInt32 >>> ((4 : Int32).toUInt32 &&& Int32.toUInt32 31)).toInt32)) &&& (252645135 : Int32)).toUInt32 >>> ((8 : Int32).toUInt32 &&& Int32.toUInt32 31)).toInt32)))]) dJ6_bitCount_0f7a4_40 rfl (by decide) rfl ?_
  refine g_iload_n X 0 dJ6_bitCount_0f7a4_41 rfl rfl ?_
  refine g_iload_n X 0 dJ6_bitCount_0f7a4_42 rfl rfl ?_
  refine g_bipush X (v := 16) dJ6_bitCount_0f7a4_43 (by decide) ?_
  refine g_iushr X dJ6_bitCount_0f7a4_45 ?_
  refine g_iadd X dJ6_bitCount_0f7a4_46 ?_
  refine g_istore_n X (lv' := [(0, .int (((((((p0 - (((p0.toUInt32 >>> ((1 : Int32).toUInt32 &&& Int32.toUInt32 31)).toInt32) &&& (1431655765 : Int32))) &&& (858993459 : Int32)) + ((((p0 - (((p0.toUInt32 >>> ((1 : Int32).toUInt32 &&& Int32.toUInt32 31)).toInt32) &&& (1431655765 : Int32))).toUInt32 >>> ((2 : Int32).toUInt32 &&& Int32.toUInt32 31)).toInt32) &&& (858993459 : Int32))) + (((((p0 - (((p0.toUInt32 >>> ((1 : Int32).toUInt32 &&& Int32.toUInt32 31)).toInt32) &&& (1431655765 : Int32))) &&& (858993459 : Int32)) + ((((p0 - (((p0.toUInt32 >>> ((1 : Int32).toUInt32 &&& Int32.toUInt32 31)).toInt32) &&& (1431655765 : Int32))).toUInt32 >>> ((2 : Int32).toUInt32 &&& Int32.toUInt32 31)).toInt32) &&& (858993459 : Int32))).toUInt32 >>> ((4 : Int32).toUInt32 &&& Int32.toUInt32 31)).toInt32)) &&& (252645135 : Int32)) + (((((((p0 - (((p0.toUInt32 >>> ((1 : Int32).toUInt32 &&& Int32.toUInt32 31)).toInt32) &&& (1431655765 : Int32))) &&& (858993459 : Int32)) + ((((p0 - (((p0.toUInt32 >>> ((1 : Int32).toUInt32 &&& Int32.toUInt32 31)).toInt32) &&& (1431655765 : Int32))).toUInt32 >>> ((2 : Int32).toUInt32 &&& Int32.toUInt32 31)).toInt32) &&& (858993459 : Int32))) + (((((p0 - (((p0.toUInt32 >>> ((1 : Int32).toUInt32 &&& Int32.toUInt32 31)).toInt32) &&& (1431655765 : Int32))) &&& (858993459 : Int32)) + ((((p0 - (((p0.toUInt32 >>> ((1 : Int32).toUInt32 &&& Int32.toUInt32 31)).toInt32) &&& (1431655765 : Int32))).toUInt32 >>> ((2 : Int32).toUInt32 &&& Int32.toUInt32 31)).toInt32) &&& (858993459 : Int32))).toUInt32 >>> ((4 : Int32).toUInt32 &&& Int32.toUInt32 31)).toInt32)) &&& (252645135 : Int32)).toUInt32 >>> ((8 : Int32).toUInt32 &&& Int32.toUInt32 31)).toInt32)) + ((((((((p0 - (((p0.toUInt32 >>> ((1 : Int32).toUInt32 &&& Int32.toUInt32 31)).toInt32) &&& (1431655765 : Int32))) &&& (858993459 : Int32)) + ((((p0 - (((p0.toUInt32 >>> ((1 : Int32).toUInt32 &&& Int32.toUInt32 31)).toInt32) &&& (1431655765 : Int32))).toUInt32 >>> ((2 : Int32).toUInt32 &&& Int32.toUInt32 31)).toInt32) &&& (858993459 : Int32))) + (((((p0 - (((p0.toUInt32 >>> ((1 : Int32).toUInt32 &&& Int32.toUInt32 31)).toInt32) &&& (1431655765 : Int32))) &&& (858993459 : Int32)) + ((((p0 - (((p0.toUInt32 >>> ((1 : Int32).toUInt32 &&& Int32.toUInt32 31)).toInt32) &&& (1431655765 : Int32))).toUInt32 >>> ((2 : Int32).toUInt32 &&& Int32.toUInt32 31)).toInt32) &&& (858993459 : Int32))).toUInt32 >>> ((4 : Int32).toUInt32 &&& Int32.toUInt32 31)).toInt32)) &&& (252645135 : Int32)) + (((((((p0 - (((p0.toUInt32 >>> ((1 : Int32).toUInt32 &&& Int32.toUInt32 31)).toInt32) &&& (1431655765 : Int32))) &&& (858993459 : Int32)) + ((((p0 - (((p0.toUInt32 >>> ((1 : Int32).toUInt32 &&& Int32.toUInt32 31)).toInt32) &&& (1431655765 : Int32))).toUInt32 >>> ((2 : Int32).toUInt32 &&& Int32.toUInt32 31)).toInt32) &&& (858993459 : Int32))) + (((((p0 - (((p0.toUInt32 >>> ((1 : Int32).toUInt32 &&& Int32.toUInt32 31)).toInt32) &&& (1431655765 : Int32))) &&& (858993459 : Int32)) + ((((p0 - (((p0.toUInt32 >>> ((1 : Int32).toUInt32 &&& Int32.toUInt32 31)).toInt32) &&& (1431655765 : Int32))).toUInt32 >>> ((2 : Int32).toUInt32 &&& Int32.toUInt32 31)).toInt32) &&& (858993459 : Int32))).toUInt32 >>> ((4 : Int32).toUInt32 &&& Int32.toUInt32 31)).toInt32)) &&& (252645135 : Int32)).toUInt32 >>> ((8 : Int32).toUInt32 &&& Int32.toUInt32 31)).toInt32)).toUInt32 >>> ((16 : Int32).toUInt32 &&& Int32.toUInt32 31)).toInt32)))]) dJ6_bitCount_0f7a4_47 rfl (by decide) rfl ?_
  refine g_iload_n X 0 dJ6_bitCount_0f7a4_48 rfl rfl ?_
  refine g_bipush X (v := 63) dJ6_bitCount_0f7a4_49 (by decide) ?_
  refine g_iand X dJ6_bitCount_0f7a4_51 ?_
  obtain ⟨rfl, rfl⟩ := lf2 hf
  exact hret 52 _ dJ6_bitCount_0f7a4_52 rfl

theorem kS_X0_47 : wcS RX0 47 yJ6_bitCount_0f7a4 cJ6_bitCount_0f7a4 1 (some .int) 1 := ⟨q_ml_X0_47, q_st_yJ6_bitCount_0f7a4, q_in_J6, q_co_yJ6_bitCount_0f7a4, by decide +kernel⟩

def X0_ways_29 (f : Nat) (k4 : Int32 → Int32 → Int32 → Mem → Option (Int32 × Mem)) (v1 : Int32) (v2 : Int32) (v3 : Int32) (m0 : Mem) : Option (Int32 × Mem) :=
  k4 v1 v2 (v3 + (1 : Int32)) m0
def X0_ways_4 (f : Nat) : Nat → Int32 → Int32 → Int32 → Mem → Option (Int32 × Mem)
  | 0, _, _, _, _ => none
  | n + 1, v1, v2, v3, m0 =>
    if (m0.1 f 0) ≤ v3 then
      some (v2, m0)
    else
      if v3 = v1 then
        X0_ways_29 f (X0_ways_4 f n) v1 v2 v3 m0
      else
        if inn v3 6 then
        bi (J6_bitCount_0f7a4 (m0.1 (f + 4) v3.toNatClampNeg) m0) fun r24 m24 =>
        X0_ways_29 f (X0_ways_4 f n) v1 (v2 + r24) v3 m24
        else none
def X0_ways (f : Nat) (p0 : Int32) (m0 : Mem) : Option (Int32 × Mem) :=
  X0_ways_4 f 10000 p0 (0 : Int32) (0 : Int32) m0
abbrev rmX0_ways : Room := { frames := 1, cells := 0, slots := 0, locals := 20 }
set_option maxRecDepth 100000 in
set_option maxHeartbeats 4000000 in
theorem w_X0_ways_29 {Γ : Ga} {b : Nat} {ad : Nat → Nat} {nt : Nat} {z : Nat → Nat} {f : Nat} {k4 : Int32 → Int32 → Int32 → Mem → Option (Int32 × Mem)} {r9 : Int32} {m9 : Mem} (hf9 : isF f) (X : Cx Γ b cX0_ways 4 RX0 (some .int) rmX0_ways) (hret : ∀ (pc : Nat) (lv : List (Nat × Value)), decode cX0_ways pc = .ok (.ireturn, 1) → narrow .int (.int r9) = .int r9 → Go Γ b (sg ad nt z) 0 0 pc lv [.int r9] m9) (hk4 : ∀ (v1 : Int32) (v2 : Int32) (v3 : Int32) (m0 : Mem), k4 v1 v2 v3 m0 = some (r9, m9) → Go Γ b (sg ad nt z) 0 0 4 [(0, .ref (ad f)), (1, .int v1), (2, .int v2), (3, .int v3)] [] m0) (v1 : Int32) (v2 : Int32) (v3 : Int32) (m0 : Mem) (hf : X0_ways_29 f k4 v1 v2 v3 m0 = some (r9, m9)) : Go Γ b (sg ad nt z) 0 0 29 [(0, .ref (ad f)), (1, .int v1), (2, .int v2), (3, .int v3)] [] m0 := by
  refine g_iinc X 3 (v := v3 + (1 : Int32)) (lv' := [(3, .int (v3 + (1 : Int32))), (0, .ref (ad f)), (1, .int v1), (2, .int v2)]) dX0_ways_29 rfl rfl (by decide) rfl ?_
  refine g_goto X (tgt := 4) dX0_ways_32 (by decide) ?_
  refine g_pick [1, 2, 3, 0] (lv' := [(0, .ref (ad f)), (1, .int v1), (2, .int v2), (3, .int (v3 + (1 : Int32)))]) rfl ?_
  exact hk4 v1 v2 (v3 + (1 : Int32)) m0 hf
set_option maxRecDepth 100000 in
set_option maxHeartbeats 4000000 in
theorem w_X0_ways_4 {Γ : Ga} {b : Nat} {ad : Nat → Nat} {nt : Nat} {z : Nat → Nat} {f : Nat} {r9 : Int32} {m9 : Mem} (hf9 : isF f) (X : Cx Γ b cX0_ways 4 RX0 (some .int) rmX0_ways) (hret : ∀ (pc : Nat) (lv : List (Nat × Value)), decode cX0_ways pc = .ok (.ireturn, 1) → narrow .int (.int r9) = .int r9 → Go Γ b (sg ad nt z) 0 0 pc lv [.int r9] m9) : ∀ (n : Nat) (v1 : Int32) (v2 : Int32) (v3 : Int32) (m0 : Mem), X0_ways_4 f n v1 v2 v3 m0 = some (r9, m9) → Go Γ b (sg ad nt z) 0 0 4 [(0, .ref (ad f)), (1, .int v1), (2, .int v2), (3, .int v3)] [] m0 := by
  intro n
  induction n with
  | zero =>
    intro v1 v2 v3 m0 hf
    cases hf
  | succ n ih =>
    intro v1 v2 v3 m0 hf
    refine g_iload_n X 3 dX0_ways_4 rfl rfl ?_
    refine g_aload_n X 0 dX0_ways_5 rfl rfl ?_
    refine g_getI X f 0 0 dX0_ways_6 (F_lt0 hf9) (F_kd0 hf9) (by decide) rfl iw_X0 (by decide) rfl q_fl_X0_9 ?_
    refine g_icmp_ge X (tgt := 35) dX0_ways_9 (by decide) (fun c9 => ?_) (fun c9 => ?_)
    · have hf := it c9 hf
      refine g_iload_n X 2 dX0_ways_35 rfl rfl ?_
      obtain ⟨rfl, rfl⟩ := lf2 hf
      exact hret 36 _ dX0_ways_36 rfl
    · have hf := ie c9 hf
      refine g_iload_n X 3 dX0_ways_12 rfl rfl ?_
      refine g_iload_n X 1 dX0_ways_13 rfl rfl ?_
      refine g_icmp_eq X (tgt := 29) dX0_ways_14 (by decide) (fun c14 => ?_) (fun c14 => ?_)
      · have hf := it c14 hf
        exact w_X0_ways_29 hf9 X hret ih v1 v2 v3 m0 hf
      · have hf := ie c14 hf
        refine g_iload_n X 2 dX0_ways_17 rfl rfl ?_
        refine g_aload_n X 0 dX0_ways_18 rfl rfl ?_
        refine g_getr X (x := ad (f + 4)) f 0 6 dX0_ways_19 (F_lt0 hf9) (F_kd0 hf9) (by decide) rfl iw_X0 (by decide) rfl q_fl_X0_31 (F_r6 hf9) ?_
        refine g_iload_n X 3 dX0_ways_22 rfl rfl ?_
        obtain ⟨h23, hf⟩ := grd hf
        refine g_iald X (f + 4) (n := 6) dX0_ways_23 (F_lt4 hf9) (F_kd4 hf9) (F_ln4 hf9) h23 ?_
        obtain ⟨r24, m24, h24, hf⟩ := bi_i hf
        refine g_eSI X [.int (m0.1 (f + 4) v3.toNatClampNeg)] kS_X0_47 (c_J6_bitCount_0f7a4 h24) dX0_ways_24 rfl rfl ⟨(Nat.le_of_ble_eq_true rfl), (Nat.le_of_ble_eq_true rfl)⟩ ⟨rfl, rfl⟩ ⟨(Nat.zero_le _), (Nat.zero_le _)⟩ (Nat.le_of_ble_eq_true rfl) ?_
        refine g_iadd X dX0_ways_27 ?_
        refine g_istore_n X (lv' := [(2, .int (v2 + r24)), (0, .ref (ad f)), (1, .int v1), (3, .int v3)]) dX0_ways_28 rfl (by decide) rfl ?_
        refine g_pick [1, 2, 0, 3] (lv' := [(0, .ref (ad f)), (1, .int v1), (2, .int (v2 + r24)), (3, .int v3)]) rfl ?_
        exact w_X0_ways_29 hf9 X hret ih v1 (v2 + r24) v3 m24 hf
set_option maxRecDepth 100000 in
set_option maxHeartbeats 4000000 in
theorem c_X0_ways {l : Launch} {G : GG} {b : Nat} {ad : Nat → Nat} {nt : Nat} {z : Nat → Nat} {f : Nat} {p0 : Int32} {m0 : Mem} {r9 : Int32} {m9 : Mem} (hf9 : isF f) (hf : X0_ways f p0 m0 = some (r9, m9)) : MtI l yX0_ways cX0_ways 4 (some .int) rmX0_ways G b (sg ad nt z) m0 [.ref (ad f), .int p0] (pEI r9 (sg ad nt z) m9) := by
  refine mtI_of (by decide) (Nat.le_of_ble_eq_true rfl) .int rfl (fun Γ hG X hnm hr => ?_)
  have hret : ∀ (pc : Nat) (lv : List (Nat × Value)), decode cX0_ways pc = .ok (.ireturn, 1) → narrow .int (.int r9) = .int r9 → Go Γ b (sg ad nt z) 0 0 pc lv [.int r9] m9 := fun pc lv d hn => hr pc lv _ _ _ d ⟨rfl, rfl, rfl⟩ hn
  show Go Γ b (sg ad nt z) 0 0 0 [(0, .ref (ad f)), (1, .int p0)] [] m0
  refine g_iconst X (v := 0) dX0_ways_0 (by decide) ?_
  refine g_istore_n X (lv' := [(2, .int (0 : Int32)), (0, .ref (ad f)), (1, .int p0)]) dX0_ways_1 rfl (by decide) rfl ?_
  refine g_iconst X (v := 0) dX0_ways_2 (by decide) ?_
  refine g_istore_n X (lv' := [(3, .int (0 : Int32)), (2, .int (0 : Int32)), (0, .ref (ad f)), (1, .int p0)]) dX0_ways_3 rfl (by decide) rfl ?_
  refine g_pick [2, 3, 1, 0] (lv' := [(0, .ref (ad f)), (1, .int p0), (2, .int (0 : Int32)), (3, .int (0 : Int32))]) rfl ?_
  exact w_X0_ways_4 hf9 X hret 10000 p0 (0 : Int32) (0 : Int32) m0 hf

def X0_knownByAny_26 (f : Nat) (k4 : Int32 → Int32 → Int32 → Mem → Option (Int32 × Mem)) (v1 : Int32) (v2 : Int32) (v3 : Int32) (m0 : Mem) : Option (Int32 × Mem) :=
  k4 v1 v2 (v3 + (1 : Int32)) m0
def X0_knownByAny_4 (f : Nat) : Nat → Int32 → Int32 → Int32 → Mem → Option (Int32 × Mem)
  | 0, _, _, _, _ => none
  | n + 1, v1, v2, v3, m0 =>
    if (m0.1 f 0) ≤ v3 then
      some (v2, m0)
    else
      if v3 = v1 then
        X0_knownByAny_26 f (X0_knownByAny_4 f n) v1 v2 v3 m0
      else
        if inn v3 6 then
        X0_knownByAny_26 f (X0_knownByAny_4 f n) v1 (v2 ||| (m0.1 (f + 4) v3.toNatClampNeg)) v3 m0
        else none
def X0_knownByAny (f : Nat) (p0 : Int32) (m0 : Mem) : Option (Int32 × Mem) :=
  X0_knownByAny_4 f 10000 p0 (0 : Int32) (0 : Int32) m0
abbrev rmX0_knownByAny : Room := { frames := 0, cells := 0, slots := 0, locals := 0 }
set_option maxRecDepth 100000 in
set_option maxHeartbeats 4000000 in
theorem w_X0_knownByAny_26 {Γ : Ga} {b : Nat} {ad : Nat → Nat} {nt : Nat} {z : Nat → Nat} {f : Nat} {k4 : Int32 → Int32 → Int32 → Mem → Option (Int32 × Mem)} {r9 : Int32} {m9 : Mem} (hf9 : isF f) (X : Cx Γ b cX0_knownByAny 4 RX0 (some .int) rmX0_knownByAny) (hret : ∀ (pc : Nat) (lv : List (Nat × Value)), decode cX0_knownByAny pc = .ok (.ireturn, 1) → narrow .int (.int r9) = .int r9 → Go Γ b (sg ad nt z) 0 0 pc lv [.int r9] m9) (hk4 : ∀ (v1 : Int32) (v2 : Int32) (v3 : Int32) (m0 : Mem), k4 v1 v2 v3 m0 = some (r9, m9) → Go Γ b (sg ad nt z) 0 0 4 [(0, .ref (ad f)), (1, .int v1), (2, .int v2), (3, .int v3)] [] m0) (v1 : Int32) (v2 : Int32) (v3 : Int32) (m0 : Mem) (hf : X0_knownByAny_26 f k4 v1 v2 v3 m0 = some (r9, m9)) : Go Γ b (sg ad nt z) 0 0 26 [(0, .ref (ad f)), (1, .int v1), (2, .int v2), (3, .int v3)] [] m0 := by
  refine g_iinc X 3 (v := v3 + (1 : Int32)) (lv' := [(3, .int (v3 + (1 : Int32))), (0, .ref (ad f)), (1, .int v1), (2, .int v2)]) dX0_knownByAny_26 rfl rfl (by decide) rfl ?_
  refine g_goto X (tgt := 4) dX0_knownByAny_29 (by decide) ?_
  refine g_pick [1, 2, 3, 0] (lv' := [(0, .ref (ad f)), (1, .int v1), (2, .int v2), (3, .int (v3 + (1 : Int32)))]) rfl ?_
  exact hk4 v1 v2 (v3 + (1 : Int32)) m0 hf
set_option maxRecDepth 100000 in
set_option maxHeartbeats 4000000 in
theorem w_X0_knownByAny_4 {Γ : Ga} {b : Nat} {ad : Nat → Nat} {nt : Nat} {z : Nat → Nat} {f : Nat} {r9 : Int32} {m9 : Mem} (hf9 : isF f) (X : Cx Γ b cX0_knownByAny 4 RX0 (some .int) rmX0_knownByAny) (hret : ∀ (pc : Nat) (lv : List (Nat × Value)), decode cX0_knownByAny pc = .ok (.ireturn, 1) → narrow .int (.int r9) = .int r9 → Go Γ b (sg ad nt z) 0 0 pc lv [.int r9] m9) : ∀ (n : Nat) (v1 : Int32) (v2 : Int32) (v3 : Int32) (m0 : Mem), X0_knownByAny_4 f n v1 v2 v3 m0 = some (r9, m9) → Go Γ b (sg ad nt z) 0 0 4 [(0, .ref (ad f)), (1, .int v1), (2, .int v2), (3, .int v3)] [] m0 := by
  intro n
  induction n with
  | zero =>
    intro v1 v2 v3 m0 hf
    cases hf
  | succ n ih =>
    intro v1 v2 v3 m0 hf
    refine g_iload_n X 3 dX0_knownByAny_4 rfl rfl ?_
    refine g_aload_n X 0 dX0_knownByAny_5 rfl rfl ?_
    refine g_getI X f 0 0 dX0_knownByAny_6 (F_lt0 hf9) (F_kd0 hf9) (by decide) rfl iw_X0 (by decide) rfl q_fl_X0_9 ?_
    refine g_icmp_ge X (tgt := 32) dX0_knownByAny_9 (by decide) (fun c9 => ?_) (fun c9 => ?_)
    · have hf := it c9 hf
      refine g_iload_n X 2 dX0_knownByAny_32 rfl rfl ?_
      obtain ⟨rfl, rfl⟩ := lf2 hf
      exact hret 33 _ dX0_knownByAny_33 rfl
    · have hf := ie c9 hf
      refine g_iload_n X 3 dX0_knownByAny_12 rfl rfl ?_
      refine g_iload_n X 1 dX0_knownByAny_13 rfl rfl ?_
      refine g_icmp_eq X (tgt := 26) dX0_knownByAny_14 (by decide) (fun c14 => ?_) (fun c14 => ?_)
      · have hf := it c14 hf
        exact w_X0_knownByAny_26 hf9 X hret ih v1 v2 v3 m0 hf
      · have hf := ie c14 hf
        refine g_iload_n X 2 dX0_knownByAny_17 rfl rfl ?_
        refine g_aload_n X 0 dX0_knownByAny_18 rfl rfl ?_
        refine g_getr X (x := ad (f + 4)) f 0 6 dX0_knownByAny_19 (F_lt0 hf9) (F_kd0 hf9) (by decide) rfl iw_X0 (by decide) rfl q_fl_X0_31 (F_r6 hf9) ?_
        refine g_iload_n X 3 dX0_knownByAny_22 rfl rfl ?_
        obtain ⟨h23, hf⟩ := grd hf
        refine g_iald X (f + 4) (n := 6) dX0_knownByAny_23 (F_lt4 hf9) (F_kd4 hf9) (F_ln4 hf9) h23 ?_
        refine g_ior X dX0_knownByAny_24 ?_
        refine g_istore_n X (lv' := [(2, .int (v2 ||| (m0.1 (f + 4) v3.toNatClampNeg))), (0, .ref (ad f)), (1, .int v1), (3, .int v3)]) dX0_knownByAny_25 rfl (by decide) rfl ?_
        refine g_pick [1, 2, 0, 3] (lv' := [(0, .ref (ad f)), (1, .int v1), (2, .int (v2 ||| (m0.1 (f + 4) v3.toNatClampNeg))), (3, .int v3)]) rfl ?_
        exact w_X0_knownByAny_26 hf9 X hret ih v1 (v2 ||| (m0.1 (f + 4) v3.toNatClampNeg)) v3 m0 hf
set_option maxRecDepth 100000 in
set_option maxHeartbeats 4000000 in
theorem c_X0_knownByAny {l : Launch} {G : GG} {b : Nat} {ad : Nat → Nat} {nt : Nat} {z : Nat → Nat} {f : Nat} {p0 : Int32} {m0 : Mem} {r9 : Int32} {m9 : Mem} (hf9 : isF f) (hf : X0_knownByAny f p0 m0 = some (r9, m9)) : MtI l yX0_knownByAny cX0_knownByAny 4 (some .int) rmX0_knownByAny G b (sg ad nt z) m0 [.ref (ad f), .int p0] (pEI r9 (sg ad nt z) m9) := by
  refine mtI_of (by decide) (Nat.le_of_ble_eq_true rfl) .int rfl (fun Γ hG X hnm hr => ?_)
  have hret : ∀ (pc : Nat) (lv : List (Nat × Value)), decode cX0_knownByAny pc = .ok (.ireturn, 1) → narrow .int (.int r9) = .int r9 → Go Γ b (sg ad nt z) 0 0 pc lv [.int r9] m9 := fun pc lv d hn => hr pc lv _ _ _ d ⟨rfl, rfl, rfl⟩ hn
  show Go Γ b (sg ad nt z) 0 0 0 [(0, .ref (ad f)), (1, .int p0)] [] m0
  refine g_iconst X (v := 0) dX0_knownByAny_0 (by decide) ?_
  refine g_istore_n X (lv' := [(2, .int (0 : Int32)), (0, .ref (ad f)), (1, .int p0)]) dX0_knownByAny_1 rfl (by decide) rfl ?_
  refine g_iconst X (v := 0) dX0_knownByAny_2 (by decide) ?_
  refine g_istore_n X (lv' := [(3, .int (0 : Int32)), (2, .int (0 : Int32)), (0, .ref (ad f)), (1, .int p0)]) dX0_knownByAny_3 rfl (by decide) rfl ?_
  refine g_pick [2, 3, 1, 0] (lv' := [(0, .ref (ad f)), (1, .int p0), (2, .int (0 : Int32)), (3, .int (0 : Int32))]) rfl ?_
  exact w_X0_knownByAny_4 hf9 X hret 10000 p0 (0 : Int32) (0 : Int32) m0 hf

def X0_knownByAll_6 (f : Nat) : Nat → Int32 → Int32 → Mem → Option (Int32 × Mem)
  | 0, _, _, _ => none
  | n + 1, v1, v2, m0 =>
    if (m0.1 f 0) ≤ v2 then
      some (v1, m0)
    else
      if inn v2 6 then
      X0_knownByAll_6 f n (v1 &&& (m0.1 (f + 4) v2.toNatClampNeg)) (v2 + (1 : Int32)) m0
      else none
def X0_knownByAll (f : Nat) (m0 : Mem) : Option (Int32 × Mem) :=
  X0_knownByAll_6 f 10000 (255 : Int32) (0 : Int32) m0
abbrev rmX0_knownByAll : Room := { frames := 0, cells := 0, slots := 0, locals := 0 }
set_option maxRecDepth 100000 in
set_option maxHeartbeats 4000000 in
theorem w_X0_knownByAll_6 {Γ : Ga} {b : Nat} {ad : Nat → Nat} {nt : Nat} {z : Nat → Nat} {f : Nat} {r9 : Int32} {m9 : Mem} (hf9 : isF f) (X : Cx Γ b cX0_knownByAll 3 RX0 (some .int) rmX0_knownByAll) (hret : ∀ (pc : Nat) (lv : List (Nat × Value)), decode cX0_knownByAll pc = .ok (.ireturn, 1) → narrow .int (.int r9) = .int r9 → Go Γ b (sg ad nt z) 0 0 pc lv [.int r9] m9) : ∀ (n : Nat) (v1 : Int32) (v2 : Int32) (m0 : Mem), X0_knownByAll_6 f n v1 v2 m0 = some (r9, m9) → Go Γ b (sg ad nt z) 0 0 6 [(0, .ref (ad f)), (1, .int v1), (2, .int v2)] [] m0 := by
  intro n
  induction n with
  | zero =>
    intro v1 v2 m0 hf
    cases hf
  | succ n ih =>
    intro v1 v2 m0 hf
    refine g_iload_n X 2 dX0_knownByAll_6 rfl rfl ?_
    refine g_aload_n X 0 dX0_knownByAll_7 rfl rfl ?_
    refine g_getI X f 0 0 dX0_knownByAll_8 (F_lt0 hf9) (F_kd0 hf9) (by decide) rfl iw_X0 (by decide) rfl q_fl_X0_9 ?_
    refine g_icmp_ge X (tgt := 29) dX0_knownByAll_11 (by decide) (fun c11 => ?_) (fun c11 => ?_)
    · have hf := it c11 hf
      refine g_iload_n X 1 dX0_knownByAll_29 rfl rfl ?_
      obtain ⟨rfl, rfl⟩ := lf2 hf
      exact hret 30 _ dX0_knownByAll_30 rfl
    · have hf := ie c11 hf
      refine g_iload_n X 1 dX0_knownByAll_14 rfl rfl ?_
      refine g_aload_n X 0 dX0_knownByAll_15 rfl rfl ?_
      refine g_getr X (x := ad (f + 4)) f 0 6 dX0_knownByAll_16 (F_lt0 hf9) (F_kd0 hf9) (by decide) rfl iw_X0 (by decide) rfl q_fl_X0_31 (F_r6 hf9) ?_
      refine g_iload_n X 2 dX0_knownByAll_19 rfl rfl ?_
      obtain ⟨h20, hf⟩ := grd hf
      refine g_iald X (f + 4) (n := 6) dX0_knownByAll_20 (F_lt4 hf9) (F_kd4 hf9) (F_ln4 hf9) h20 ?_
      refine g_iand X dX0_knownByAll_21 ?_
      refine g_istore_n X (lv' := [(1, .int (v1 &&& (m0.1 (f + 4) v2.toNatClampNeg))), (0, .ref (ad f)), (2, .int v2)]) dX0_knownByAll_22 rfl (by decide) rfl ?_
      refine g_iinc X 2 (v := v2 + (1 : Int32)) (lv' := [(2, .int (v2 + (1 : Int32))), (1, .int (v1 &&& (m0.1 (f + 4) v2.toNatClampNeg))), (0, .ref (ad f))]) dX0_knownByAll_23 rfl rfl (by decide) rfl ?_
      refine g_goto X (tgt := 6) dX0_knownByAll_26 (by decide) ?_
      refine g_pick [2, 1, 0] (lv' := [(0, .ref (ad f)), (1, .int (v1 &&& (m0.1 (f + 4) v2.toNatClampNeg))), (2, .int (v2 + (1 : Int32)))]) rfl ?_
      exact ih (v1 &&& (m0.1 (f + 4) v2.toNatClampNeg)) (v2 + (1 : Int32)) m0 hf
set_option maxRecDepth 100000 in
set_option maxHeartbeats 4000000 in
theorem c_X0_knownByAll {l : Launch} {G : GG} {b : Nat} {ad : Nat → Nat} {nt : Nat} {z : Nat → Nat} {f : Nat} {m0 : Mem} {r9 : Int32} {m9 : Mem} (hf9 : isF f) (hf : X0_knownByAll f m0 = some (r9, m9)) : MtI l yX0_knownByAll cX0_knownByAll 3 (some .int) rmX0_knownByAll G b (sg ad nt z) m0 [.ref (ad f)] (pEI r9 (sg ad nt z) m9) := by
  refine mtI_of (by decide) (Nat.le_of_ble_eq_true rfl) .int rfl (fun Γ hG X hnm hr => ?_)
  have hret : ∀ (pc : Nat) (lv : List (Nat × Value)), decode cX0_knownByAll pc = .ok (.ireturn, 1) → narrow .int (.int r9) = .int r9 → Go Γ b (sg ad nt z) 0 0 pc lv [.int r9] m9 := fun pc lv d hn => hr pc lv _ _ _ d ⟨rfl, rfl, rfl⟩ hn
  show Go Γ b (sg ad nt z) 0 0 0 [(0, .ref (ad f))] [] m0
  refine g_sipush X (v := 255) dX0_knownByAll_0 (by decide) ?_
  refine g_istore_n X (lv' := [(1, .int (255 : Int32)), (0, .ref (ad f))]) dX0_knownByAll_3 rfl (by decide) rfl ?_
  refine g_iconst X (v := 0) dX0_knownByAll_4 (by decide) ?_
  refine g_istore_n X (lv' := [(2, .int (0 : Int32)), (1, .int (255 : Int32)), (0, .ref (ad f))]) dX0_knownByAll_5 rfl (by decide) rfl ?_
  refine g_pick [2, 1, 0] (lv' := [(0, .ref (ad f)), (1, .int (255 : Int32)), (2, .int (0 : Int32))]) rfl ?_
  exact w_X0_knownByAll_6 hf9 X hret 10000 (255 : Int32) (0 : Int32) m0 hf

theorem kV_X0_53 : wcV RX0 53 RX0 yX0_knownByAny cX0_knownByAny 4 (some .int) 1 := ⟨q_ml_X0_53, q_im_yX0_knownByAny, q_se_yX0_knownByAny, q_in_X0, q_co_yX0_knownByAny, by decide +kernel⟩

def X0_hoard (f : Nat) (p0 : Int32) (m0 : Mem) : Option (Int32 × Mem) :=
  if inn p0 6 then
  bi (X0_knownByAny f p0 m0) fun r8 m8 =>
  some ((m0.1 (f + 4) p0.toNatClampNeg) &&& (r8 ^^^ (-1 : Int32)), m8)
  else none
abbrev rmX0_hoard : Room := { frames := 1, cells := 0, slots := 0, locals := 23 }

set_option maxRecDepth 100000 in
set_option maxHeartbeats 4000000 in
theorem c_X0_hoard {l : Launch} {G : GG} {b : Nat} {ad : Nat → Nat} {nt : Nat} {z : Nat → Nat} {f : Nat} {p0 : Int32} {m0 : Mem} {r9 : Int32} {m9 : Mem} (hf9 : isF f) (hf : X0_hoard f p0 m0 = some (r9, m9)) : MtI l yX0_hoard cX0_hoard 2 (some .int) rmX0_hoard G b (sg ad nt z) m0 [.ref (ad f), .int p0] (pEI r9 (sg ad nt z) m9) := by
  refine mtI_of (by decide) (Nat.le_of_ble_eq_true rfl) .int rfl (fun Γ hG X hnm hr => ?_)
  have hret : ∀ (pc : Nat) (lv : List (Nat × Value)), decode cX0_hoard pc = .ok (.ireturn, 1) → narrow .int (.int r9) = .int r9 → Go Γ b (sg ad nt z) 0 0 pc lv [.int r9] m9 := fun pc lv d hn => hr pc lv _ _ _ d ⟨rfl, rfl, rfl⟩ hn
  show Go Γ b (sg ad nt z) 0 0 0 [(0, .ref (ad f)), (1, .int p0)] [] m0
  refine g_aload_n X 0 dX0_hoard_0 rfl rfl ?_
  refine g_getr X (x := ad (f + 4)) f 0 6 dX0_hoard_1 (F_lt0 hf9) (F_kd0 hf9) (by decide) rfl iw_X0 (by decide) rfl q_fl_X0_31 (F_r6 hf9) ?_
  refine g_iload_n X 1 dX0_hoard_4 rfl rfl ?_
  obtain ⟨h5, hf⟩ := grd hf
  refine g_iald X (f + 4) (n := 6) dX0_hoard_5 (F_lt4 hf9) (F_kd4 hf9) (F_ln4 hf9) h5 ?_
  refine g_aload_n X 0 dX0_hoard_6 rfl rfl ?_
  refine g_iload_n X 1 dX0_hoard_7 rfl rfl ?_
  obtain ⟨r8, m8, h8, hf⟩ := bi_i hf
  refine g_eVI X f 0 [.int p0] kV_X0_53 (c_X0_knownByAny hf9 h8) dX0_hoard_8 rfl rfl (F_lt0 hf9) (F_kd0 hf9) (by decide) rfl rfl ⟨(Nat.le_of_ble_eq_true rfl), (Nat.le_of_ble_eq_true rfl)⟩ ⟨rfl, rfl⟩ ⟨(Nat.zero_le _), (Nat.zero_le _)⟩ (Nat.le_of_ble_eq_true rfl) ?_
  refine g_iconst X (v := -1) dX0_hoard_11 (by decide) ?_
  refine g_ixor X dX0_hoard_12 ?_
  refine g_iand X dX0_hoard_13 ?_
  obtain ⟨rfl, rfl⟩ := lf2 hf
  exact hret 14 _ dX0_hoard_14 rfl

def X0_minutesOfAll_4 (f : Nat) : Nat → Int32 → Int32 → Mem → Option (Int32 × Mem)
  | 0, _, _, _ => none
  | n + 1, v1, v2, m0 =>
    if (m0.1 f 0) ≤ v2 then
      some (v1, m0)
    else
      if inn v2 6 then
      X0_minutesOfAll_4 f n (v1 + (m0.1 (f + 6) v2.toNatClampNeg)) (v2 + (1 : Int32)) m0
      else none
def X0_minutesOfAll (f : Nat) (m0 : Mem) : Option (Int32 × Mem) :=
  X0_minutesOfAll_4 f 10000 (0 : Int32) (0 : Int32) m0
abbrev rmX0_minutesOfAll : Room := { frames := 0, cells := 0, slots := 0, locals := 0 }
set_option maxRecDepth 100000 in
set_option maxHeartbeats 4000000 in
theorem w_X0_minutesOfAll_4 {Γ : Ga} {b : Nat} {ad : Nat → Nat} {nt : Nat} {z : Nat → Nat} {f : Nat} {r9 : Int32} {m9 : Mem} (hf9 : isF f) (X : Cx Γ b cX0_minutesOfAll 3 RX0 (some .int) rmX0_minutesOfAll) (hret : ∀ (pc : Nat) (lv : List (Nat × Value)), decode cX0_minutesOfAll pc = .ok (.ireturn, 1) → narrow .int (.int r9) = .int r9 → Go Γ b (sg ad nt z) 0 0 pc lv [.int r9] m9) : ∀ (n : Nat) (v1 : Int32) (v2 : Int32) (m0 : Mem), X0_minutesOfAll_4 f n v1 v2 m0 = some (r9, m9) → Go Γ b (sg ad nt z) 0 0 4 [(0, .ref (ad f)), (1, .int v1), (2, .int v2)] [] m0 := by
  intro n
  induction n with
  | zero =>
    intro v1 v2 m0 hf
    cases hf
  | succ n ih =>
    intro v1 v2 m0 hf
    refine g_iload_n X 2 dX0_minutesOfAll_4 rfl rfl ?_
    refine g_aload_n X 0 dX0_minutesOfAll_5 rfl rfl ?_
    refine g_getI X f 0 0 dX0_minutesOfAll_6 (F_lt0 hf9) (F_kd0 hf9) (by decide) rfl iw_X0 (by decide) rfl q_fl_X0_9 ?_
    refine g_icmp_ge X (tgt := 27) dX0_minutesOfAll_9 (by decide) (fun c9 => ?_) (fun c9 => ?_)
    · have hf := it c9 hf
      refine g_iload_n X 1 dX0_minutesOfAll_27 rfl rfl ?_
      obtain ⟨rfl, rfl⟩ := lf2 hf
      exact hret 28 _ dX0_minutesOfAll_28 rfl
    · have hf := ie c9 hf
      refine g_iload_n X 1 dX0_minutesOfAll_12 rfl rfl ?_
      refine g_aload_n X 0 dX0_minutesOfAll_13 rfl rfl ?_
      refine g_getr X (x := ad (f + 6)) f 0 8 dX0_minutesOfAll_14 (F_lt0 hf9) (F_kd0 hf9) (by decide) rfl iw_X0 (by decide) rfl q_fl_X0_37 (F_r8 hf9) ?_
      refine g_iload_n X 2 dX0_minutesOfAll_17 rfl rfl ?_
      obtain ⟨h18, hf⟩ := grd hf
      refine g_iald X (f + 6) (n := 6) dX0_minutesOfAll_18 (F_lt6 hf9) (F_kd6 hf9) (F_ln6 hf9) h18 ?_
      refine g_iadd X dX0_minutesOfAll_19 ?_
      refine g_istore_n X (lv' := [(1, .int (v1 + (m0.1 (f + 6) v2.toNatClampNeg))), (0, .ref (ad f)), (2, .int v2)]) dX0_minutesOfAll_20 rfl (by decide) rfl ?_
      refine g_iinc X 2 (v := v2 + (1 : Int32)) (lv' := [(2, .int (v2 + (1 : Int32))), (1, .int (v1 + (m0.1 (f + 6) v2.toNatClampNeg))), (0, .ref (ad f))]) dX0_minutesOfAll_21 rfl rfl (by decide) rfl ?_
      refine g_goto X (tgt := 4) dX0_minutesOfAll_24 (by decide) ?_
      refine g_pick [2, 1, 0] (lv' := [(0, .ref (ad f)), (1, .int (v1 + (m0.1 (f + 6) v2.toNatClampNeg))), (2, .int (v2 + (1 : Int32)))]) rfl ?_
      exact ih (v1 + (m0.1 (f + 6) v2.toNatClampNeg)) (v2 + (1 : Int32)) m0 hf
set_option maxRecDepth 100000 in
set_option maxHeartbeats 4000000 in
theorem c_X0_minutesOfAll {l : Launch} {G : GG} {b : Nat} {ad : Nat → Nat} {nt : Nat} {z : Nat → Nat} {f : Nat} {m0 : Mem} {r9 : Int32} {m9 : Mem} (hf9 : isF f) (hf : X0_minutesOfAll f m0 = some (r9, m9)) : MtI l yX0_minutesOfAll cX0_minutesOfAll 3 (some .int) rmX0_minutesOfAll G b (sg ad nt z) m0 [.ref (ad f)] (pEI r9 (sg ad nt z) m9) := by
  refine mtI_of (by decide) (Nat.le_of_ble_eq_true rfl) .int rfl (fun Γ hG X hnm hr => ?_)
  have hret : ∀ (pc : Nat) (lv : List (Nat × Value)), decode cX0_minutesOfAll pc = .ok (.ireturn, 1) → narrow .int (.int r9) = .int r9 → Go Γ b (sg ad nt z) 0 0 pc lv [.int r9] m9 := fun pc lv d hn => hr pc lv _ _ _ d ⟨rfl, rfl, rfl⟩ hn
  show Go Γ b (sg ad nt z) 0 0 0 [(0, .ref (ad f))] [] m0
  refine g_iconst X (v := 0) dX0_minutesOfAll_0 (by decide) ?_
  refine g_istore_n X (lv' := [(1, .int (0 : Int32)), (0, .ref (ad f))]) dX0_minutesOfAll_1 rfl (by decide) rfl ?_
  refine g_iconst X (v := 0) dX0_minutesOfAll_2 (by decide) ?_
  refine g_istore_n X (lv' := [(2, .int (0 : Int32)), (1, .int (0 : Int32)), (0, .ref (ad f))]) dX0_minutesOfAll_3 rfl (by decide) rfl ?_
  refine g_pick [2, 1, 0] (lv' := [(0, .ref (ad f)), (1, .int (0 : Int32)), (2, .int (0 : Int32))]) rfl ?_
  exact w_X0_minutesOfAll_4 hf9 X hret 10000 (0 : Int32) (0 : Int32) m0 hf

def X1_isKind (p0 : Int32) (m0 : Mem) : Option (Int32 × Mem) :=
  if p0 < 0 then
    some ((0 : Int32), m0)
  else
    if (6 : Int32) ≤ p0 then
      some ((0 : Int32), m0)
    else
      some ((1 : Int32), m0)
abbrev rmX1_isKind : Room := { frames := 0, cells := 0, slots := 0, locals := 0 }

set_option maxRecDepth 100000 in
set_option maxHeartbeats 4000000 in
theorem c_X1_isKind {l : Launch} {G : GG} {b : Nat} {ad : Nat → Nat} {nt : Nat} {z : Nat → Nat} {p0 : Int32} {m0 : Mem} {r9 : Int32} {m9 : Mem} (hf : X1_isKind p0 m0 = some (r9, m9)) : MtI l yX1_isKind cX1_isKind 1 (some .boolean) rmX1_isKind G b (sg ad nt z) m0 [.int p0] (pEI r9 (sg ad nt z) m9) := by
  refine mtI_of (by decide) (Nat.le_of_ble_eq_true rfl) .boolean rfl (fun Γ hG X hnm hr => ?_)
  have hret : ∀ (pc : Nat) (lv : List (Nat × Value)), decode cX1_isKind pc = .ok (.ireturn, 1) → narrow .boolean (.int r9) = .int r9 → Go Γ b (sg ad nt z) 0 0 pc lv [.int r9] m9 := fun pc lv d hn => hr pc lv _ _ _ d ⟨rfl, rfl, rfl⟩ hn
  show Go Γ b (sg ad nt z) 0 0 0 [(0, .int p0)] [] m0
  refine g_iload_n X 0 dX1_isKind_0 rfl rfl ?_
  refine g_if_lt X (tgt := 14) dX1_isKind_1 (by decide) (fun c1 => ?_) (fun c1 => ?_)
  · have hf := it c1 hf
    refine g_iconst X (v := 0) dX1_isKind_14 (by decide) ?_
    obtain ⟨rfl, rfl⟩ := lf2 hf
    exact hret 15 _ dX1_isKind_15 rfl
  · have hf := ie c1 hf
    refine g_iload_n X 0 dX1_isKind_4 rfl rfl ?_
    refine g_bipush X (v := 6) dX1_isKind_5 (by decide) ?_
    refine g_icmp_ge X (tgt := 14) dX1_isKind_7 (by decide) (fun c7 => ?_) (fun c7 => ?_)
    · have hf := it c7 hf
      refine g_iconst X (v := 0) dX1_isKind_14 (by decide) ?_
      obtain ⟨rfl, rfl⟩ := lf2 hf
      exact hret 15 _ dX1_isKind_15 rfl
    · have hf := ie c7 hf
      refine g_iconst X (v := 1) dX1_isKind_10 (by decide) ?_
      refine g_goto X (tgt := 15) dX1_isKind_11 (by decide) ?_
      obtain ⟨rfl, rfl⟩ := lf2 hf
      exact hret 15 _ dX1_isKind_15 rfl

theorem kS_X1_11 : wcS RX1 11 yX1_isKind cX1_isKind 1 (some .boolean) 1 := ⟨q_ml_X1_11, q_st_yX1_isKind, q_in_X1, q_co_yX1_isKind, by decide +kernel⟩

def X1_isUnder_4 : Nat → Int32 → Int32 → Int32 → Mem → Option (Int32 × Mem)
  | 0, _, _, _, _ => none
  | n + 1, v1, v2, v3, m0 =>
    if (6 : Int32) ≤ v3 then
      some ((0 : Int32), m0)
    else
      bi (X1_isKind v2 m0) fun r11 m11 =>
      if r11 = 0 then
        some ((0 : Int32), m11)
      else
        if v2 = v1 then
          some ((1 : Int32), m11)
        else
          if inn v2 6 then
          X1_isUnder_4 n v1 (([-1, 0, 0, 1, 2, 0] : List Int32).getD v2.toNatClampNeg 0) (v3 + (1 : Int32)) m11
          else none
def X1_isUnder (p0 : Int32) (p1 : Int32) (m0 : Mem) : Option (Int32 × Mem) :=
  X1_isUnder_4 10000 p1 p0 (0 : Int32) m0
abbrev rmX1_isUnder : Room := { frames := 1, cells := 0, slots := 0, locals := 20 }
set_option maxRecDepth 100000 in
set_option maxHeartbeats 4000000 in
theorem w_X1_isUnder_4 {Γ : Ga} {b : Nat} {ad : Nat → Nat} {nt : Nat} {z : Nat → Nat} {r9 : Int32} {m9 : Mem} (X : Cx Γ b cX1_isUnder 4 RX1 (some .boolean) rmX1_isUnder) (hret : ∀ (pc : Nat) (lv : List (Nat × Value)), decode cX1_isUnder pc = .ok (.ireturn, 1) → narrow .boolean (.int r9) = .int r9 → Go Γ b (sg ad nt z) 0 0 pc lv [.int r9] m9) : ∀ (n : Nat) (v1 : Int32) (v2 : Int32) (v3 : Int32) (m0 : Mem), X1_isUnder_4 n v1 v2 v3 m0 = some (r9, m9) → Go Γ b (sg ad nt z) 0 0 4 [(1, .int v1), (2, .int v2), (3, .int v3)] [] m0 := by
  intro n
  induction n with
  | zero =>
    intro v1 v2 v3 m0 hf
    cases hf
  | succ n ih =>
    intro v1 v2 v3 m0 hf
    refine g_iload_n X 2 dX1_isUnder_4 rfl rfl ?_
    refine g_bipush X (v := 6) dX1_isUnder_5 (by decide) ?_
    refine g_icmp_ge X (tgt := 36) dX1_isUnder_7 (by decide) (fun c7 => ?_) (fun c7 => ?_)
    · have hf := it c7 hf
      refine g_iconst X (v := 0) dX1_isUnder_36 (by decide) ?_
      obtain ⟨rfl, rfl⟩ := lf2 hf
      exact hret 37 _ dX1_isUnder_37 rfl
    · have hf := ie c7 hf
      refine g_iload_n X 1 dX1_isUnder_10 rfl rfl ?_
      obtain ⟨r11, m11, h11, hf⟩ := bi_i hf
      refine g_eSI X [.int v2] kS_X1_11 (c_X1_isKind h11) dX1_isUnder_11 rfl rfl ⟨(Nat.le_of_ble_eq_true rfl), (Nat.le_of_ble_eq_true rfl)⟩ ⟨rfl, rfl⟩ ⟨(Nat.zero_le _), (Nat.zero_le _)⟩ (Nat.le_of_ble_eq_true rfl) ?_
      refine g_if_eq X (tgt := 36) dX1_isUnder_14 (by decide) (fun c14 => ?_) (fun c14 => ?_)
      · have hf := it c14 hf
        refine g_iconst X (v := 0) dX1_isUnder_36 (by decide) ?_
        obtain ⟨rfl, rfl⟩ := lf2 hf
        exact hret 37 _ dX1_isUnder_37 rfl
      · have hf := ie c14 hf
        refine g_iload_n X 1 dX1_isUnder_17 rfl rfl ?_
        refine g_iload_n X 0 dX1_isUnder_18 rfl rfl ?_
        refine g_icmp_ne X (tgt := 24) dX1_isUnder_19 (by decide) (fun c19 => ?_) (fun c19 => ?_)
        · have hf := ie c19 hf
          refine g_getsAB X dX1_isUnder_24 q_fl_X1_15 ?_
          refine g_iload_n X 1 dX1_isUnder_27 rfl rfl ?_
          obtain ⟨h28, hf⟩ := grd hf
          refine g_tldAB X dX1_isUnder_28 h28 ?_
          refine g_istore_n X (lv' := [(2, .int (([-1, 0, 0, 1, 2, 0] : List Int32).getD v2.toNatClampNeg 0)), (1, .int v1), (3, .int v3)]) dX1_isUnder_29 rfl (by decide) rfl ?_
          refine g_iinc X 2 (v := v3 + (1 : Int32)) (lv' := [(3, .int (v3 + (1 : Int32))), (2, .int (([-1, 0, 0, 1, 2, 0] : List Int32).getD v2.toNatClampNeg 0)), (1, .int v1)]) dX1_isUnder_30 rfl rfl (by decide) rfl ?_
          refine g_goto X (tgt := 4) dX1_isUnder_33 (by decide) ?_
          refine g_pick [2, 1, 0] (lv' := [(1, .int v1), (2, .int (([-1, 0, 0, 1, 2, 0] : List Int32).getD v2.toNatClampNeg 0)), (3, .int (v3 + (1 : Int32)))]) rfl ?_
          exact ih v1 (([-1, 0, 0, 1, 2, 0] : List Int32).getD v2.toNatClampNeg 0) (v3 + (1 : Int32)) m11 hf
        · have hf := it c19 hf
          refine g_iconst X (v := 1) dX1_isUnder_22 (by decide) ?_
          obtain ⟨rfl, rfl⟩ := lf2 hf
          exact hret 23 _ dX1_isUnder_23 rfl
set_option maxRecDepth 100000 in
set_option maxHeartbeats 4000000 in
theorem c_X1_isUnder {l : Launch} {G : GG} {b : Nat} {ad : Nat → Nat} {nt : Nat} {z : Nat → Nat} {p0 : Int32} {p1 : Int32} {m0 : Mem} {r9 : Int32} {m9 : Mem} (hf : X1_isUnder p0 p1 m0 = some (r9, m9)) : MtI l yX1_isUnder cX1_isUnder 4 (some .boolean) rmX1_isUnder G b (sg ad nt z) m0 [.int p0, .int p1] (pEI r9 (sg ad nt z) m9) := by
  refine mtI_of (by decide) (Nat.le_of_ble_eq_true rfl) .boolean rfl (fun Γ hG X hnm hr => ?_)
  have hret : ∀ (pc : Nat) (lv : List (Nat × Value)), decode cX1_isUnder pc = .ok (.ireturn, 1) → narrow .boolean (.int r9) = .int r9 → Go Γ b (sg ad nt z) 0 0 pc lv [.int r9] m9 := fun pc lv d hn => hr pc lv _ _ _ d ⟨rfl, rfl, rfl⟩ hn
  show Go Γ b (sg ad nt z) 0 0 0 [(0, .int p0), (1, .int p1)] [] m0
  refine g_iload_n X 0 dX1_isUnder_0 rfl rfl ?_
  refine g_istore_n X (lv' := [(2, .int p0), (0, .int p0), (1, .int p1)]) dX1_isUnder_1 rfl (by decide) rfl ?_
  refine g_iconst X (v := 0) dX1_isUnder_2 (by decide) ?_
  refine g_istore_n X (lv' := [(3, .int (0 : Int32)), (2, .int p0), (0, .int p0), (1, .int p1)]) dX1_isUnder_3 rfl (by decide) rfl ?_
  refine g_pick [3, 1, 0] (lv' := [(1, .int p1), (2, .int p0), (3, .int (0 : Int32))]) rfl ?_
  exact w_X1_isUnder_4 X hret 10000 p1 p0 (0 : Int32) m0 hf

def X1_takes_113 (f : Nat) (v1 : Int32) (v2 : Int32) (m0 : Mem) : Option (Int32 × Mem) :=
  if inn v1 6 then
  if v2 = ((m0.1 (f + 2) v1.toNatClampNeg) - (m0.1 (f + 2) v1.toNatClampNeg) / (8 : Int32) * (8 : Int32)) then
    some ((1 : Int32), m0)
  else
    some ((0 : Int32), m0)
  else none
def X1_takes_141 (f : Nat) (v1 : Int32) (v2 : Int32) (m0 : Mem) : Option (Int32 × Mem) :=
  if inn v1 6 then
  if v2 = (m0.1 (f + 3) v1.toNatClampNeg) then
    some ((0 : Int32), m0)
  else
    some ((1 : Int32), m0)
  else none
def X1_takes_31 (f : Nat) (v1 : Int32) (v2 : Int32) (v3 : Int32) (v4 : Int32) (s0 : Int32) (m0 : Mem) : Option (Int32 × Mem) :=
  if inn v1 6 then
  if (m0.1 (f + 1) v1.toNatClampNeg) = (0 : Int32) then
    if v3 = 0 ∨ v3 = 1 then some (v3, m0) else none
  else
    if (m0.1 (f + 1) v1.toNatClampNeg) = (1 : Int32) then
      if v4 = 0 then
        some ((0 : Int32), m0)
      else
        if v3 = 0 then
          some ((0 : Int32), m0)
        else
          some ((1 : Int32), m0)
    else
      if (m0.1 (f + 1) v1.toNatClampNeg) = (2 : Int32) then
        if s0 = 0 then
          if v3 = 0 then
            some ((0 : Int32), m0)
          else
            some ((1 : Int32), m0)
        else
          some ((1 : Int32), m0)
      else
        if (m0.1 (f + 1) v1.toNatClampNeg) = (3 : Int32) then
          if v4 = 0 then
            X1_takes_113 f v1 v2 m0
          else
            if v3 = 0 then
              X1_takes_113 f v1 v2 m0
            else
              some ((1 : Int32), m0)
        else
          if (m0.1 (f + 1) v1.toNatClampNeg) = (4 : Int32) then
            if s0 = 0 then
              if v3 = 0 then
                some ((0 : Int32), m0)
              else
                X1_takes_141 f v1 v2 m0
            else
              X1_takes_141 f v1 v2 m0
          else
            some ((0 : Int32), m0)
  else none
def X1_takes_18 (f : Nat) (v1 : Int32) (v2 : Int32) (v3 : Int32) (s0 : Int32) (m0 : Mem) : Option (Int32 × Mem) :=
  if (v2 - v2 / (2 : Int32) * (2 : Int32)) = 0 then
    X1_takes_31 f v1 v2 v3 s0 (1 : Int32) m0
  else
    X1_takes_31 f v1 v2 v3 s0 (0 : Int32) m0
def X1_takes (f : Nat) (p1 : Int32) (p2 : Int32) (p3 : Int32) (m0 : Mem) : Option (Int32 × Mem) :=
  if inn p1 6 then
  if (((m0.1 (f + 5) p1.toNatClampNeg) >>> (p2 &&& 31)) &&& (1 : Int32)) = 0 then
    X1_takes_18 f p1 p2 p3 (0 : Int32) m0
  else
    X1_takes_18 f p1 p2 p3 (1 : Int32) m0
  else none
abbrev rmX1_takes : Room := { frames := 0, cells := 0, slots := 0, locals := 0 }
set_option maxRecDepth 100000 in
set_option maxHeartbeats 4000000 in
theorem w_X1_takes_113 {Γ : Ga} {b : Nat} {ad : Nat → Nat} {nt : Nat} {z : Nat → Nat} {f : Nat} {r9 : Int32} {m9 : Mem} (hf9 : isF f) (X : Cx Γ b cX1_takes 6 RX1 (some .boolean) rmX1_takes) (hret : ∀ (pc : Nat) (lv : List (Nat × Value)), decode cX1_takes pc = .ok (.ireturn, 1) → narrow .boolean (.int r9) = .int r9 → Go Γ b (sg ad nt z) 0 0 pc lv [.int r9] m9) (v1 : Int32) (v2 : Int32) (m0 : Mem) (hf : X1_takes_113 f v1 v2 m0 = some (r9, m9)) : Go Γ b (sg ad nt z) 0 0 113 [(0, .ref (ad f)), (1, .int v1), (2, .int v2)] [] m0 := by
  refine g_iload_n X 2 dX1_takes_113 rfl rfl ?_
  refine g_aload_n X 0 dX1_takes_114 rfl rfl ?_
  refine g_getr X (x := ad (f + 2)) f 0 4 dX1_takes_115 (F_lt0 hf9) (F_kd0 hf9) (by decide) rfl iw_X0 (by decide) rfl q_fl_X1_27 (F_r4 hf9) ?_
  refine g_iload_n X 1 dX1_takes_118 rfl rfl ?_
  obtain ⟨h119, hf⟩ := grd hf
  refine g_iald X (f + 2) (n := 6) dX1_takes_119 (F_lt2 hf9) (F_kd2 hf9) (F_ln2 hf9) h119 ?_
  refine g_bipush X (v := 8) dX1_takes_120 (by decide) ?_
  refine g_irem X dX1_takes_122 (by decide) ?_
  refine g_icmp_ne X (tgt := 130) dX1_takes_123 (by decide) (fun c123 => ?_) (fun c123 => ?_)
  · have hf := ie c123 hf
    refine g_iconst X (v := 0) dX1_takes_130 (by decide) ?_
    obtain ⟨rfl, rfl⟩ := lf2 hf
    exact hret 131 _ dX1_takes_131 rfl
  · have hf := it c123 hf
    refine g_iconst X (v := 1) dX1_takes_126 (by decide) ?_
    refine g_goto X (tgt := 131) dX1_takes_127 (by decide) ?_
    obtain ⟨rfl, rfl⟩ := lf2 hf
    exact hret 131 _ dX1_takes_131 rfl
set_option maxRecDepth 100000 in
set_option maxHeartbeats 4000000 in
theorem w_X1_takes_141 {Γ : Ga} {b : Nat} {ad : Nat → Nat} {nt : Nat} {z : Nat → Nat} {f : Nat} {r9 : Int32} {m9 : Mem} (hf9 : isF f) (X : Cx Γ b cX1_takes 6 RX1 (some .boolean) rmX1_takes) (hret : ∀ (pc : Nat) (lv : List (Nat × Value)), decode cX1_takes pc = .ok (.ireturn, 1) → narrow .boolean (.int r9) = .int r9 → Go Γ b (sg ad nt z) 0 0 pc lv [.int r9] m9) (v1 : Int32) (v2 : Int32) (m0 : Mem) (hf : X1_takes_141 f v1 v2 m0 = some (r9, m9)) : Go Γ b (sg ad nt z) 0 0 141 [(0, .ref (ad f)), (1, .int v1), (2, .int v2)] [] m0 := by
  refine g_iload_n X 2 dX1_takes_141 rfl rfl ?_
  refine g_aload_n X 0 dX1_takes_142 rfl rfl ?_
  refine g_getr X (x := ad (f + 3)) f 0 5 dX1_takes_143 (F_lt0 hf9) (F_kd0 hf9) (by decide) rfl iw_X0 (by decide) rfl q_fl_X1_30 (F_r5 hf9) ?_
  refine g_iload_n X 1 dX1_takes_146 rfl rfl ?_
  obtain ⟨h147, hf⟩ := grd hf
  refine g_iald X (f + 3) (n := 6) dX1_takes_147 (F_lt3 hf9) (F_kd3 hf9) (F_ln3 hf9) h147 ?_
  refine g_icmp_eq X (tgt := 155) dX1_takes_148 (by decide) (fun c148 => ?_) (fun c148 => ?_)
  · have hf := it c148 hf
    refine g_iconst X (v := 0) dX1_takes_155 (by decide) ?_
    obtain ⟨rfl, rfl⟩ := lf2 hf
    exact hret 156 _ dX1_takes_156 rfl
  · have hf := ie c148 hf
    refine g_iconst X (v := 1) dX1_takes_151 (by decide) ?_
    refine g_goto X (tgt := 156) dX1_takes_152 (by decide) ?_
    obtain ⟨rfl, rfl⟩ := lf2 hf
    exact hret 156 _ dX1_takes_156 rfl
set_option maxRecDepth 100000 in
set_option maxHeartbeats 4000000 in
theorem w_X1_takes_31 {Γ : Ga} {b : Nat} {ad : Nat → Nat} {nt : Nat} {z : Nat → Nat} {f : Nat} {r9 : Int32} {m9 : Mem} (hf9 : isF f) (X : Cx Γ b cX1_takes 6 RX1 (some .boolean) rmX1_takes) (hret : ∀ (pc : Nat) (lv : List (Nat × Value)), decode cX1_takes pc = .ok (.ireturn, 1) → narrow .boolean (.int r9) = .int r9 → Go Γ b (sg ad nt z) 0 0 pc lv [.int r9] m9) (v1 : Int32) (v2 : Int32) (v3 : Int32) (v4 : Int32) (s0 : Int32) (m0 : Mem) (hf : X1_takes_31 f v1 v2 v3 v4 s0 m0 = some (r9, m9)) : Go Γ b (sg ad nt z) 0 0 31 [(0, .ref (ad f)), (1, .int v1), (2, .int v2), (3, .int v3), (4, .int v4)] [.int s0] m0 := by
  refine g_istore X (lv' := [(5, .int s0), (0, .ref (ad f)), (1, .int v1), (2, .int v2), (3, .int v3), (4, .int v4)]) dX1_takes_31 (by decide) rfl ?_
  refine g_aload_n X 1 dX1_takes_33 rfl rfl ?_
  refine g_getr X (x := ad (f + 1)) f 0 3 dX1_takes_34 (F_lt0 hf9) (F_kd0 hf9) (by decide) rfl iw_X0 (by decide) rfl q_fl_X1_24 (F_r3 hf9) ?_
  refine g_iload_n X 2 dX1_takes_37 rfl rfl ?_
  obtain ⟨h38, hf⟩ := grd hf
  refine g_iald X (f + 1) (n := 6) dX1_takes_38 (F_lt1 hf9) (F_kd1 hf9) (F_ln1 hf9) h38 ?_
  by_cases c39_0 : (m0.1 (f + 1) v1.toNatClampNeg) = (0 : Int32)
  · have hf := it c39_0 hf
    refine g_tblIn X (tgt := 72) dX1_takes_39 (by rw [c39_0]; decide) (by rw [c39_0]; decide) (off := 33) (by rw [c39_0]; rfl) (by decide) ?_
    refine g_iload_n X 4 dX1_takes_72 rfl rfl ?_
    obtain ⟨hz, hf⟩ := grd hf
    obtain ⟨rfl, rfl⟩ := lf2 hf
    exact hret 73 _ dX1_takes_73 (nw_z hz)
  · have hf := ie c39_0 hf
    by_cases c39_1 : (m0.1 (f + 1) v1.toNatClampNeg) = (1 : Int32)
    · have hf := it c39_1 hf
      refine g_tblIn X (tgt := 74) dX1_takes_39 (by rw [c39_1]; decide) (by rw [c39_1]; decide) (off := 35) (by rw [c39_1]; rfl) (by decide) ?_
      refine g_iload X 5 dX1_takes_74 rfl ?_
      refine g_if_eq X (tgt := 87) dX1_takes_76 (by decide) (fun c76 => ?_) (fun c76 => ?_)
      · have hf := it c76 hf
        refine g_iconst X (v := 0) dX1_takes_87 (by decide) ?_
        obtain ⟨rfl, rfl⟩ := lf2 hf
        exact hret 88 _ dX1_takes_88 rfl
      · have hf := ie c76 hf
        refine g_iload_n X 4 dX1_takes_79 rfl rfl ?_
        refine g_if_eq X (tgt := 87) dX1_takes_80 (by decide) (fun c80 => ?_) (fun c80 => ?_)
        · have hf := it c80 hf
          refine g_iconst X (v := 0) dX1_takes_87 (by decide) ?_
          obtain ⟨rfl, rfl⟩ := lf2 hf
          exact hret 88 _ dX1_takes_88 rfl
        · have hf := ie c80 hf
          refine g_iconst X (v := 1) dX1_takes_83 (by decide) ?_
          refine g_goto X (tgt := 88) dX1_takes_84 (by decide) ?_
          obtain ⟨rfl, rfl⟩ := lf2 hf
          exact hret 88 _ dX1_takes_88 rfl
    · have hf := ie c39_1 hf
      by_cases c39_2 : (m0.1 (f + 1) v1.toNatClampNeg) = (2 : Int32)
      · have hf := it c39_2 hf
        refine g_tblIn X (tgt := 89) dX1_takes_39 (by rw [c39_2]; decide) (by rw [c39_2]; decide) (off := 50) (by rw [c39_2]; rfl) (by decide) ?_
        refine g_iload X 0 dX1_takes_89 rfl ?_
        refine g_if_ne X (tgt := 98) dX1_takes_91 (by decide) (fun c91 => ?_) (fun c91 => ?_)
        · have hf := ie c91 hf
          refine g_iconst X (v := 1) dX1_takes_98 (by decide) ?_
          refine g_goto X (tgt := 103) dX1_takes_99 (by decide) ?_
          obtain ⟨rfl, rfl⟩ := lf2 hf
          exact hret 103 _ dX1_takes_103 rfl
        · have hf := it c91 hf
          refine g_iload_n X 4 dX1_takes_94 rfl rfl ?_
          refine g_if_eq X (tgt := 102) dX1_takes_95 (by decide) (fun c95 => ?_) (fun c95 => ?_)
          · have hf := it c95 hf
            refine g_iconst X (v := 0) dX1_takes_102 (by decide) ?_
            obtain ⟨rfl, rfl⟩ := lf2 hf
            exact hret 103 _ dX1_takes_103 rfl
          · have hf := ie c95 hf
            refine g_iconst X (v := 1) dX1_takes_98 (by decide) ?_
            refine g_goto X (tgt := 103) dX1_takes_99 (by decide) ?_
            obtain ⟨rfl, rfl⟩ := lf2 hf
            exact hret 103 _ dX1_takes_103 rfl
      · have hf := ie c39_2 hf
        by_cases c39_3 : (m0.1 (f + 1) v1.toNatClampNeg) = (3 : Int32)
        · have hf := it c39_3 hf
          refine g_tblIn X (tgt := 104) dX1_takes_39 (by rw [c39_3]; decide) (by rw [c39_3]; decide) (off := 65) (by rw [c39_3]; rfl) (by decide) ?_
          refine g_iload X 5 dX1_takes_104 rfl ?_
          refine g_if_eq X (tgt := 113) dX1_takes_106 (by decide) (fun c106 => ?_) (fun c106 => ?_)
          · have hf := it c106 hf
            refine g_pick [1, 2, 3] (lv' := [(0, .ref (ad f)), (1, .int v1), (2, .int v2)]) rfl ?_
            exact w_X1_takes_113 hf9 X hret v1 v2 m0 hf
          · have hf := ie c106 hf
            refine g_iload_n X 4 dX1_takes_109 rfl rfl ?_
            refine g_if_ne X (tgt := 126) dX1_takes_110 (by decide) (fun c110 => ?_) (fun c110 => ?_)
            · have hf := ie c110 hf
              refine g_iconst X (v := 1) dX1_takes_126 (by decide) ?_
              refine g_goto X (tgt := 131) dX1_takes_127 (by decide) ?_
              obtain ⟨rfl, rfl⟩ := lf2 hf
              exact hret 131 _ dX1_takes_131 rfl
            · have hf := it c110 hf
              refine g_pick [1, 2, 3] (lv' := [(0, .ref (ad f)), (1, .int v1), (2, .int v2)]) rfl ?_
              exact w_X1_takes_113 hf9 X hret v1 v2 m0 hf
        · have hf := ie c39_3 hf
          by_cases c39_4 : (m0.1 (f + 1) v1.toNatClampNeg) = (4 : Int32)
          · have hf := it c39_4 hf
            refine g_tblIn X (tgt := 132) dX1_takes_39 (by rw [c39_4]; decide) (by rw [c39_4]; decide) (off := 93) (by rw [c39_4]; rfl) (by decide) ?_
            refine g_iload X 0 dX1_takes_132 rfl ?_
            refine g_if_ne X (tgt := 141) dX1_takes_134 (by decide) (fun c134 => ?_) (fun c134 => ?_)
            · have hf := ie c134 hf
              refine g_pick [1, 2, 3] (lv' := [(0, .ref (ad f)), (1, .int v1), (2, .int v2)]) rfl ?_
              exact w_X1_takes_141 hf9 X hret v1 v2 m0 hf
            · have hf := it c134 hf
              refine g_iload_n X 4 dX1_takes_137 rfl rfl ?_
              refine g_if_eq X (tgt := 155) dX1_takes_138 (by decide) (fun c138 => ?_) (fun c138 => ?_)
              · have hf := it c138 hf
                refine g_iconst X (v := 0) dX1_takes_155 (by decide) ?_
                obtain ⟨rfl, rfl⟩ := lf2 hf
                exact hret 156 _ dX1_takes_156 rfl
              · have hf := ie c138 hf
                refine g_pick [1, 2, 3] (lv' := [(0, .ref (ad f)), (1, .int v1), (2, .int v2)]) rfl ?_
                exact w_X1_takes_141 hf9 X hret v1 v2 m0 hf
          · have hf := ie c39_4 hf
            refine g_tblOut X (tgt := 157) dX1_takes_39 (by have g0 := lv_neT (a := 0) c39_0 rfl; have g1 := lv_neT (a := 1) c39_1 rfl; have g2 := lv_neT (a := 2) c39_2 rfl; have g3 := lv_neT (a := 3) c39_3 rfl; have g4 := lv_neT (a := 4) c39_4 rfl; omega) (by decide) ?_
            refine g_iconst X (v := 0) dX1_takes_157 (by decide) ?_
            obtain ⟨rfl, rfl⟩ := lf2 hf
            exact hret 158 _ dX1_takes_158 rfl
set_option maxRecDepth 100000 in
set_option maxHeartbeats 4000000 in
theorem w_X1_takes_18 {Γ : Ga} {b : Nat} {ad : Nat → Nat} {nt : Nat} {z : Nat → Nat} {f : Nat} {r9 : Int32} {m9 : Mem} (hf9 : isF f) (X : Cx Γ b cX1_takes 6 RX1 (some .boolean) rmX1_takes) (hret : ∀ (pc : Nat) (lv : List (Nat × Value)), decode cX1_takes pc = .ok (.ireturn, 1) → narrow .boolean (.int r9) = .int r9 → Go Γ b (sg ad nt z) 0 0 pc lv [.int r9] m9) (v1 : Int32) (v2 : Int32) (v3 : Int32) (s0 : Int32) (m0 : Mem) (hf : X1_takes_18 f v1 v2 v3 s0 m0 = some (r9, m9)) : Go Γ b (sg ad nt z) 0 0 18 [(0, .ref (ad f)), (1, .int v1), (2, .int v2), (3, .int v3)] [.int s0] m0 := by
  refine g_istore X (lv' := [(4, .int s0), (0, .ref (ad f)), (1, .int v1), (2, .int v2), (3, .int v3)]) dX1_takes_18 (by decide) rfl ?_
  refine g_iload_n X 3 dX1_takes_20 rfl rfl ?_
  refine g_iconst X (v := 2) dX1_takes_21 (by decide) ?_
  refine g_irem X dX1_takes_22 (by decide) ?_
  refine g_if_ne X (tgt := 30) dX1_takes_23 (by decide) (fun c23 => ?_) (fun c23 => ?_)
  · have hf := ie c23 hf
    refine g_iconst X (v := 0) dX1_takes_30 (by decide) ?_
    refine g_pick [1, 2, 3, 4, 0] (lv' := [(0, .ref (ad f)), (1, .int v1), (2, .int v2), (3, .int v3), (4, .int s0)]) rfl ?_
    exact w_X1_takes_31 hf9 X hret v1 v2 v3 s0 (0 : Int32) m0 hf
  · have hf := it c23 hf
    refine g_iconst X (v := 1) dX1_takes_26 (by decide) ?_
    refine g_goto X (tgt := 31) dX1_takes_27 (by decide) ?_
    refine g_pick [1, 2, 3, 4, 0] (lv' := [(0, .ref (ad f)), (1, .int v1), (2, .int v2), (3, .int v3), (4, .int s0)]) rfl ?_
    exact w_X1_takes_31 hf9 X hret v1 v2 v3 s0 (1 : Int32) m0 hf
set_option maxRecDepth 100000 in
set_option maxHeartbeats 4000000 in
theorem c_X1_takes {l : Launch} {G : GG} {b : Nat} {ad : Nat → Nat} {nt : Nat} {z : Nat → Nat} {f : Nat} {p1 : Int32} {p2 : Int32} {p3 : Int32} {m0 : Mem} {r9 : Int32} {m9 : Mem} (hf9 : isF f) (hf : X1_takes f p1 p2 p3 m0 = some (r9, m9)) : MtI l yX1_takes cX1_takes 6 (some .boolean) rmX1_takes G b (sg ad nt z) m0 [.ref (ad f), .int p1, .int p2, .int p3] (pEI r9 (sg ad nt z) m9) := by
  refine mtI_of (by decide) (Nat.le_of_ble_eq_true rfl) .boolean rfl (fun Γ hG X hnm hr => ?_)
  have hret : ∀ (pc : Nat) (lv : List (Nat × Value)), decode cX1_takes pc = .ok (.ireturn, 1) → narrow .boolean (.int r9) = .int r9 → Go Γ b (sg ad nt z) 0 0 pc lv [.int r9] m9 := fun pc lv d hn => hr pc lv _ _ _ d ⟨rfl, rfl, rfl⟩ hn
  show Go Γ b (sg ad nt z) 0 0 0 [(0, .ref (ad f)), (1, .int p1), (2, .int p2), (3, .int p3)] [] m0
  refine g_aload_n X 0 dX1_takes_0 rfl rfl ?_
  refine g_getr X (x := ad (f + 5)) f 0 7 dX1_takes_1 (F_lt0 hf9) (F_kd0 hf9) (by decide) rfl iw_X0 (by decide) rfl q_fl_X1_19 (F_r7 hf9) ?_
  refine g_iload_n X 1 dX1_takes_4 rfl rfl ?_
  obtain ⟨h5, hf⟩ := grd hf
  refine g_iald X (f + 5) (n := 6) dX1_takes_5 (F_lt5 hf9) (F_kd5 hf9) (F_ln5 hf9) h5 ?_
  refine g_iload_n X 2 dX1_takes_6 rfl rfl ?_
  refine g_ishr X dX1_takes_7 ?_
  refine g_iconst X (v := 1) dX1_takes_8 (by decide) ?_
  refine g_iand X dX1_takes_9 ?_
  refine g_if_eq X (tgt := 17) dX1_takes_10 (by decide) (fun c10 => ?_) (fun c10 => ?_)
  · have hf := it c10 hf
    refine g_iconst X (v := 0) dX1_takes_17 (by decide) ?_
    exact w_X1_takes_18 hf9 X hret p1 p2 p3 (0 : Int32) m0 hf
  · have hf := ie c10 hf
    refine g_iconst X (v := 1) dX1_takes_13 (by decide) ?_
    refine g_goto X (tgt := 18) dX1_takes_14 (by decide) ?_
    exact w_X1_takes_18 hf9 X hret p1 p2 p3 (1 : Int32) m0 hf

def X1_worth_73 (v3 : Int32) (m0 : Mem) : Option (Int32 × Mem) :=
  some (if (0 : Int32) < (if v3 < (999 : Int32) then v3 else (999 : Int32)) then (if v3 < (999 : Int32) then v3 else (999 : Int32)) else (0 : Int32), m0)
def X1_worth (p0 : Int32) (p1 : Int32) (p2 : Int32) (m0 : Mem) : Option (Int32 × Mem) :=
  if p0 = (0 : Int32) then
    X1_worth_73 p2 m0
  else
    if p0 = (1 : Int32) then
      X1_worth_73 ((2 : Int32) * p2) m0
    else
      if p0 = (2 : Int32) then
        X1_worth_73 (p2 + p1) m0
      else
        if p0 = (3 : Int32) then
          X1_worth_73 (((2 : Int32) * p2) + (5 : Int32)) m0
        else
          if p0 = (4 : Int32) then
            X1_worth_73 ((p2 + p1) / (2 : Int32)) m0
          else
            X1_worth_73 (0 : Int32) m0
abbrev rmX1_worth : Room := { frames := 1, cells := 0, slots := 0, locals := 60 }
set_option maxRecDepth 100000 in
set_option maxHeartbeats 4000000 in
theorem w_X1_worth_73 {Γ : Ga} {b : Nat} {ad : Nat → Nat} {nt : Nat} {z : Nat → Nat} {r9 : Int32} {m9 : Mem} (X : Cx Γ b cX1_worth 4 RX1 (some .int) rmX1_worth) (hret : ∀ (pc : Nat) (lv : List (Nat × Value)), decode cX1_worth pc = .ok (.ireturn, 1) → narrow .int (.int r9) = .int r9 → Go Γ b (sg ad nt z) 0 0 pc lv [.int r9] m9) (v3 : Int32) (m0 : Mem) (hf : X1_worth_73 v3 m0 = some (r9, m9)) : Go Γ b (sg ad nt z) 0 0 73 [(3, .int v3)] [] m0 := by
  refine g_iconst X (v := 0) dX1_worth_73 (by decide) ?_
  refine g_sipush X (v := 999) dX1_worth_74 (by decide) ?_
  refine g_iload_n X 0 dX1_worth_77 rfl rfl ?_
  refine g_mmin X dX1_worth_78 q_ml_X1_33 q_st_yJ9_min_7cf53 q_in_J9 q_co_yJ9_min_7cf53 (Nat.le_of_ble_eq_true rfl) (Nat.le_of_ble_eq_true rfl) ⟨Nat.zero_le _, Nat.zero_le _⟩ ?_
  refine g_mmax X dX1_worth_81 q_ml_X1_39 q_st_yJ9_max_7cf53 q_in_J9 q_co_yJ9_max_7cf53 (Nat.le_of_ble_eq_true rfl) (Nat.le_of_ble_eq_true rfl) ⟨Nat.zero_le _, Nat.zero_le _⟩ ?_
  obtain ⟨rfl, rfl⟩ := lf2 hf
  exact hret 84 _ dX1_worth_84 rfl
set_option maxRecDepth 100000 in
set_option maxHeartbeats 4000000 in
theorem c_X1_worth {l : Launch} {G : GG} {b : Nat} {ad : Nat → Nat} {nt : Nat} {z : Nat → Nat} {p0 : Int32} {p1 : Int32} {p2 : Int32} {m0 : Mem} {r9 : Int32} {m9 : Mem} (hf : X1_worth p0 p1 p2 m0 = some (r9, m9)) : MtI l yX1_worth cX1_worth 4 (some .int) rmX1_worth G b (sg ad nt z) m0 [.int p0, .int p1, .int p2] (pEI r9 (sg ad nt z) m9) := by
  refine mtI_of (by decide) (Nat.le_of_ble_eq_true rfl) .int rfl (fun Γ hG X hnm hr => ?_)
  have hret : ∀ (pc : Nat) (lv : List (Nat × Value)), decode cX1_worth pc = .ok (.ireturn, 1) → narrow .int (.int r9) = .int r9 → Go Γ b (sg ad nt z) 0 0 pc lv [.int r9] m9 := fun pc lv d hn => hr pc lv _ _ _ d ⟨rfl, rfl, rfl⟩ hn
  show Go Γ b (sg ad nt z) 0 0 0 [(0, .int p0), (1, .int p1), (2, .int p2)] [] m0
  refine g_iconst X (v := 0) dX1_worth_0 (by decide) ?_
  refine g_istore_n X (lv' := [(3, .int (0 : Int32)), (0, .int p0), (1, .int p1), (2, .int p2)]) dX1_worth_1 rfl (by decide) rfl ?_
  refine g_iload_n X 1 dX1_worth_2 rfl rfl ?_
  by_cases c3_0 : p0 = (0 : Int32)
  · have hf := it c3_0 hf
    refine g_tblIn X (tgt := 36) dX1_worth_3 (by rw [c3_0]; decide) (by rw [c3_0]; decide) (off := 33) (by rw [c3_0]; rfl) (by decide) ?_
    refine g_iload_n X 3 dX1_worth_36 rfl rfl ?_
    refine g_istore_n X (lv' := [(3, .int p2), (0, .int p0), (1, .int p1), (2, .int p2)]) dX1_worth_37 rfl (by decide) rfl ?_
    refine g_goto X (tgt := 73) dX1_worth_38 (by decide) ?_
    refine g_pick [0] (lv' := [(3, .int p2)]) rfl ?_
    exact w_X1_worth_73 X hret p2 m0 hf
  · have hf := ie c3_0 hf
    by_cases c3_1 : p0 = (1 : Int32)
    · have hf := it c3_1 hf
      refine g_tblIn X (tgt := 41) dX1_worth_3 (by rw [c3_1]; decide) (by rw [c3_1]; decide) (off := 38) (by rw [c3_1]; rfl) (by decide) ?_
      refine g_iconst X (v := 2) dX1_worth_41 (by decide) ?_
      refine g_iload_n X 3 dX1_worth_42 rfl rfl ?_
      refine g_imul X dX1_worth_43 ?_
      refine g_istore_n X (lv' := [(3, .int ((2 : Int32) * p2)), (0, .int p0), (1, .int p1), (2, .int p2)]) dX1_worth_44 rfl (by decide) rfl ?_
      refine g_goto X (tgt := 73) dX1_worth_45 (by decide) ?_
      refine g_pick [0] (lv' := [(3, .int ((2 : Int32) * p2))]) rfl ?_
      exact w_X1_worth_73 X hret ((2 : Int32) * p2) m0 hf
    · have hf := ie c3_1 hf
      by_cases c3_2 : p0 = (2 : Int32)
      · have hf := it c3_2 hf
        refine g_tblIn X (tgt := 48) dX1_worth_3 (by rw [c3_2]; decide) (by rw [c3_2]; decide) (off := 45) (by rw [c3_2]; rfl) (by decide) ?_
        refine g_iload_n X 3 dX1_worth_48 rfl rfl ?_
        refine g_iload_n X 2 dX1_worth_49 rfl rfl ?_
        refine g_iadd X dX1_worth_50 ?_
        refine g_istore_n X (lv' := [(3, .int (p2 + p1)), (0, .int p0), (1, .int p1), (2, .int p2)]) dX1_worth_51 rfl (by decide) rfl ?_
        refine g_goto X (tgt := 73) dX1_worth_52 (by decide) ?_
        refine g_pick [0] (lv' := [(3, .int (p2 + p1))]) rfl ?_
        exact w_X1_worth_73 X hret (p2 + p1) m0 hf
      · have hf := ie c3_2 hf
        by_cases c3_3 : p0 = (3 : Int32)
        · have hf := it c3_3 hf
          refine g_tblIn X (tgt := 55) dX1_worth_3 (by rw [c3_3]; decide) (by rw [c3_3]; decide) (off := 52) (by rw [c3_3]; rfl) (by decide) ?_
          refine g_iconst X (v := 2) dX1_worth_55 (by decide) ?_
          refine g_iload_n X 3 dX1_worth_56 rfl rfl ?_
          refine g_imul X dX1_worth_57 ?_
          refine g_iconst X (v := 5) dX1_worth_58 (by decide) ?_
          refine g_iadd X dX1_worth_59 ?_
          refine g_istore_n X (lv' := [(3, .int (((2 : Int32) * p2) + (5 : Int32))), (0, .int p0), (1, .int p1), (2, .int p2)]) dX1_worth_60 rfl (by decide) rfl ?_
          refine g_goto X (tgt := 73) dX1_worth_61 (by decide) ?_
          refine g_pick [0] (lv' := [(3, .int (((2 : Int32) * p2) + (5 : Int32)))]) rfl ?_
          exact w_X1_worth_73 X hret (((2 : Int32) * p2) + (5 : Int32)) m0 hf
        · have hf := ie c3_3 hf
          by_cases c3_4 : p0 = (4 : Int32)
          · have hf := it c3_4 hf
            refine g_tblIn X (tgt := 64) dX1_worth_3 (by rw [c3_4]; decide) (by rw [c3_4]; decide) (off := 61) (by rw [c3_4]; rfl) (by decide) ?_
            refine g_iload_n X 3 dX1_worth_64 rfl rfl ?_
            refine g_iload_n X 2 dX1_worth_65 rfl rfl ?_
            refine g_iadd X dX1_worth_66 ?_
            refine g_iconst X (v := 2) dX1_worth_67 (by decide) ?_
            refine g_idiv X dX1_worth_68 (by decide) ?_
            refine g_istore_n X (lv' := [(3, .int ((p2 + p1) / (2 : Int32))), (0, .int p0), (1, .int p1), (2, .int p2)]) dX1_worth_69 rfl (by decide) rfl ?_
            refine g_goto X (tgt := 73) dX1_worth_70 (by decide) ?_
            refine g_pick [0] (lv' := [(3, .int ((p2 + p1) / (2 : Int32)))]) rfl ?_
            exact w_X1_worth_73 X hret ((p2 + p1) / (2 : Int32)) m0 hf
          · have hf := ie c3_4 hf
            refine g_tblOut X (tgt := 73) dX1_worth_3 (by have g0 := lv_neT (a := 0) c3_0 rfl; have g1 := lv_neT (a := 1) c3_1 rfl; have g2 := lv_neT (a := 2) c3_2 rfl; have g3 := lv_neT (a := 3) c3_3 rfl; have g4 := lv_neT (a := 4) c3_4 rfl; omega) (by decide) ?_
            refine g_pick [0] (lv' := [(3, .int (0 : Int32))]) rfl ?_
            exact w_X1_worth_73 X hret (0 : Int32) m0 hf

def X1_time_68 (v3 : Int32) (m0 : Mem) : Option (Int32 × Mem) :=
  some (if (0 : Int32) < (if v3 < (999 : Int32) then v3 else (999 : Int32)) then (if v3 < (999 : Int32) then v3 else (999 : Int32)) else (0 : Int32), m0)
def X1_time (p0 : Int32) (p1 : Int32) (p2 : Int32) (m0 : Mem) : Option (Int32 × Mem) :=
  if p0 = (0 : Int32) then
    X1_time_68 p2 m0
  else
    if p0 = (1 : Int32) then
      X1_time_68 p2 m0
    else
      if p0 = (2 : Int32) then
        X1_time_68 (p2 / (2 : Int32)) m0
      else
        if p0 = (3 : Int32) then
          X1_time_68 (p2 + p1) m0
        else
          if p0 = (4 : Int32) then
            X1_time_68 ((p2 / (2 : Int32)) + (1 : Int32)) m0
          else
            X1_time_68 (20 : Int32) m0
abbrev rmX1_time : Room := { frames := 1, cells := 0, slots := 0, locals := 60 }
set_option maxRecDepth 100000 in
set_option maxHeartbeats 4000000 in
theorem w_X1_time_68 {Γ : Ga} {b : Nat} {ad : Nat → Nat} {nt : Nat} {z : Nat → Nat} {r9 : Int32} {m9 : Mem} (X : Cx Γ b cX1_time 4 RX1 (some .int) rmX1_time) (hret : ∀ (pc : Nat) (lv : List (Nat × Value)), decode cX1_time pc = .ok (.ireturn, 1) → narrow .int (.int r9) = .int r9 → Go Γ b (sg ad nt z) 0 0 pc lv [.int r9] m9) (v3 : Int32) (m0 : Mem) (hf : X1_time_68 v3 m0 = some (r9, m9)) : Go Γ b (sg ad nt z) 0 0 68 [(3, .int v3)] [] m0 := by
  refine g_iconst X (v := 0) dX1_time_68 (by decide) ?_
  refine g_sipush X (v := 999) dX1_time_69 (by decide) ?_
  refine g_iload_n X 0 dX1_time_72 rfl rfl ?_
  refine g_mmin X dX1_time_73 q_ml_X1_33 q_st_yJ9_min_7cf53 q_in_J9 q_co_yJ9_min_7cf53 (Nat.le_of_ble_eq_true rfl) (Nat.le_of_ble_eq_true rfl) ⟨Nat.zero_le _, Nat.zero_le _⟩ ?_
  refine g_mmax X dX1_time_76 q_ml_X1_39 q_st_yJ9_max_7cf53 q_in_J9 q_co_yJ9_max_7cf53 (Nat.le_of_ble_eq_true rfl) (Nat.le_of_ble_eq_true rfl) ⟨Nat.zero_le _, Nat.zero_le _⟩ ?_
  obtain ⟨rfl, rfl⟩ := lf2 hf
  exact hret 79 _ dX1_time_79 rfl
set_option maxRecDepth 100000 in
set_option maxHeartbeats 4000000 in
theorem c_X1_time {l : Launch} {G : GG} {b : Nat} {ad : Nat → Nat} {nt : Nat} {z : Nat → Nat} {p0 : Int32} {p1 : Int32} {p2 : Int32} {m0 : Mem} {r9 : Int32} {m9 : Mem} (hf : X1_time p0 p1 p2 m0 = some (r9, m9)) : MtI l yX1_time cX1_time 4 (some .int) rmX1_time G b (sg ad nt z) m0 [.int p0, .int p1, .int p2] (pEI r9 (sg ad nt z) m9) := by
  refine mtI_of (by decide) (Nat.le_of_ble_eq_true rfl) .int rfl (fun Γ hG X hnm hr => ?_)
  have hret : ∀ (pc : Nat) (lv : List (Nat × Value)), decode cX1_time pc = .ok (.ireturn, 1) → narrow .int (.int r9) = .int r9 → Go Γ b (sg ad nt z) 0 0 pc lv [.int r9] m9 := fun pc lv d hn => hr pc lv _ _ _ d ⟨rfl, rfl, rfl⟩ hn
  show Go Γ b (sg ad nt z) 0 0 0 [(0, .int p0), (1, .int p1), (2, .int p2)] [] m0
  refine g_bipush X (v := 20) dX1_time_0 (by decide) ?_
  refine g_istore_n X (lv' := [(3, .int (20 : Int32)), (0, .int p0), (1, .int p1), (2, .int p2)]) dX1_time_2 rfl (by decide) rfl ?_
  refine g_iload_n X 1 dX1_time_3 rfl rfl ?_
  by_cases c4_0 : p0 = (0 : Int32)
  · have hf := it c4_0 hf
    refine g_tblIn X (tgt := 40) dX1_time_4 (by rw [c4_0]; decide) (by rw [c4_0]; decide) (off := 36) (by rw [c4_0]; rfl) (by decide) ?_
    refine g_iload_n X 3 dX1_time_40 rfl rfl ?_
    refine g_istore_n X (lv' := [(3, .int p2), (0, .int p0), (1, .int p1), (2, .int p2)]) dX1_time_41 rfl (by decide) rfl ?_
    refine g_goto X (tgt := 68) dX1_time_42 (by decide) ?_
    refine g_pick [0] (lv' := [(3, .int p2)]) rfl ?_
    exact w_X1_time_68 X hret p2 m0 hf
  · have hf := ie c4_0 hf
    by_cases c4_1 : p0 = (1 : Int32)
    · have hf := it c4_1 hf
      refine g_tblIn X (tgt := 40) dX1_time_4 (by rw [c4_1]; decide) (by rw [c4_1]; decide) (off := 36) (by rw [c4_1]; rfl) (by decide) ?_
      refine g_iload_n X 3 dX1_time_40 rfl rfl ?_
      refine g_istore_n X (lv' := [(3, .int p2), (0, .int p0), (1, .int p1), (2, .int p2)]) dX1_time_41 rfl (by decide) rfl ?_
      refine g_goto X (tgt := 68) dX1_time_42 (by decide) ?_
      refine g_pick [0] (lv' := [(3, .int p2)]) rfl ?_
      exact w_X1_time_68 X hret p2 m0 hf
    · have hf := ie c4_1 hf
      by_cases c4_2 : p0 = (2 : Int32)
      · have hf := it c4_2 hf
        refine g_tblIn X (tgt := 45) dX1_time_4 (by rw [c4_2]; decide) (by rw [c4_2]; decide) (off := 41) (by rw [c4_2]; rfl) (by decide) ?_
        refine g_iload_n X 3 dX1_time_45 rfl rfl ?_
        refine g_iconst X (v := 2) dX1_time_46 (by decide) ?_
        refine g_idiv X dX1_time_47 (by decide) ?_
        refine g_istore_n X (lv' := [(3, .int (p2 / (2 : Int32))), (0, .int p0), (1, .int p1), (2, .int p2)]) dX1_time_48 rfl (by decide) rfl ?_
        refine g_goto X (tgt := 68) dX1_time_49 (by decide) ?_
        refine g_pick [0] (lv' := [(3, .int (p2 / (2 : Int32)))]) rfl ?_
        exact w_X1_time_68 X hret (p2 / (2 : Int32)) m0 hf
      · have hf := ie c4_2 hf
        by_cases c4_3 : p0 = (3 : Int32)
        · have hf := it c4_3 hf
          refine g_tblIn X (tgt := 52) dX1_time_4 (by rw [c4_3]; decide) (by rw [c4_3]; decide) (off := 48) (by rw [c4_3]; rfl) (by decide) ?_
          refine g_iload_n X 3 dX1_time_52 rfl rfl ?_
          refine g_iload_n X 2 dX1_time_53 rfl rfl ?_
          refine g_iadd X dX1_time_54 ?_
          refine g_istore_n X (lv' := [(3, .int (p2 + p1)), (0, .int p0), (1, .int p1), (2, .int p2)]) dX1_time_55 rfl (by decide) rfl ?_
          refine g_goto X (tgt := 68) dX1_time_56 (by decide) ?_
          refine g_pick [0] (lv' := [(3, .int (p2 + p1))]) rfl ?_
          exact w_X1_time_68 X hret (p2 + p1) m0 hf
        · have hf := ie c4_3 hf
          by_cases c4_4 : p0 = (4 : Int32)
          · have hf := it c4_4 hf
            refine g_tblIn X (tgt := 59) dX1_time_4 (by rw [c4_4]; decide) (by rw [c4_4]; decide) (off := 55) (by rw [c4_4]; rfl) (by decide) ?_
            refine g_iload_n X 3 dX1_time_59 rfl rfl ?_
            refine g_iconst X (v := 2) dX1_time_60 (by decide) ?_
            refine g_idiv X dX1_time_61 (by decide) ?_
            refine g_iconst X (v := 1) dX1_time_62 (by decide) ?_
            refine g_iadd X dX1_time_63 ?_
            refine g_istore_n X (lv' := [(3, .int ((p2 / (2 : Int32)) + (1 : Int32))), (0, .int p0), (1, .int p1), (2, .int p2)]) dX1_time_64 rfl (by decide) rfl ?_
            refine g_goto X (tgt := 68) dX1_time_65 (by decide) ?_
            refine g_pick [0] (lv' := [(3, .int ((p2 / (2 : Int32)) + (1 : Int32)))]) rfl ?_
            exact w_X1_time_68 X hret ((p2 / (2 : Int32)) + (1 : Int32)) m0 hf
          · have hf := ie c4_4 hf
            refine g_tblOut X (tgt := 68) dX1_time_4 (by have g0 := lv_neT (a := 0) c4_0 rfl; have g1 := lv_neT (a := 1) c4_1 rfl; have g2 := lv_neT (a := 2) c4_2 rfl; have g3 := lv_neT (a := 3) c4_3 rfl; have g4 := lv_neT (a := 4) c4_4 rfl; omega) (by decide) ?_
            refine g_pick [0] (lv' := [(3, .int (20 : Int32))]) rfl ?_
            exact w_X1_time_68 X hret (20 : Int32) m0 hf

def X1_tellsFree (p0 : Int32) (p1 : Int32) (m0 : Mem) : Option (Int32 × Mem) :=
  if p0 = (5 : Int32) then
    some ((1 : Int32), m0)
  else
    if p0 = (4 : Int32) then
      if p1 ≤ (6 : Int32) then
        some ((0 : Int32), m0)
      else
        some ((1 : Int32), m0)
    else
      some ((0 : Int32), m0)
abbrev rmX1_tellsFree : Room := { frames := 0, cells := 0, slots := 0, locals := 0 }

set_option maxRecDepth 100000 in
set_option maxHeartbeats 4000000 in
theorem c_X1_tellsFree {l : Launch} {G : GG} {b : Nat} {ad : Nat → Nat} {nt : Nat} {z : Nat → Nat} {p0 : Int32} {p1 : Int32} {m0 : Mem} {r9 : Int32} {m9 : Mem} (hf : X1_tellsFree p0 p1 m0 = some (r9, m9)) : MtI l yX1_tellsFree cX1_tellsFree 2 (some .boolean) rmX1_tellsFree G b (sg ad nt z) m0 [.int p0, .int p1] (pEI r9 (sg ad nt z) m9) := by
  refine mtI_of (by decide) (Nat.le_of_ble_eq_true rfl) .boolean rfl (fun Γ hG X hnm hr => ?_)
  have hret : ∀ (pc : Nat) (lv : List (Nat × Value)), decode cX1_tellsFree pc = .ok (.ireturn, 1) → narrow .boolean (.int r9) = .int r9 → Go Γ b (sg ad nt z) 0 0 pc lv [.int r9] m9 := fun pc lv d hn => hr pc lv _ _ _ d ⟨rfl, rfl, rfl⟩ hn
  show Go Γ b (sg ad nt z) 0 0 0 [(0, .int p0), (1, .int p1)] [] m0
  refine g_iload_n X 0 dX1_tellsFree_0 rfl rfl ?_
  refine g_iconst X (v := 5) dX1_tellsFree_1 (by decide) ?_
  refine g_icmp_eq X (tgt := 16) dX1_tellsFree_2 (by decide) (fun c2 => ?_) (fun c2 => ?_)
  · have hf := it c2 hf
    refine g_iconst X (v := 1) dX1_tellsFree_16 (by decide) ?_
    refine g_goto X (tgt := 21) dX1_tellsFree_17 (by decide) ?_
    obtain ⟨rfl, rfl⟩ := lf2 hf
    exact hret 21 _ dX1_tellsFree_21 rfl
  · have hf := ie c2 hf
    refine g_iload_n X 0 dX1_tellsFree_5 rfl rfl ?_
    refine g_iconst X (v := 4) dX1_tellsFree_6 (by decide) ?_
    refine g_icmp_ne X (tgt := 20) dX1_tellsFree_7 (by decide) (fun c7 => ?_) (fun c7 => ?_)
    · have hf := ie c7 hf
      refine g_iconst X (v := 0) dX1_tellsFree_20 (by decide) ?_
      obtain ⟨rfl, rfl⟩ := lf2 hf
      exact hret 21 _ dX1_tellsFree_21 rfl
    · have hf := it c7 hf
      refine g_iload_n X 1 dX1_tellsFree_10 rfl rfl ?_
      refine g_bipush X (v := 6) dX1_tellsFree_11 (by decide) ?_
      refine g_icmp_le X (tgt := 20) dX1_tellsFree_13 (by decide) (fun c13 => ?_) (fun c13 => ?_)
      · have hf := it c13 hf
        refine g_iconst X (v := 0) dX1_tellsFree_20 (by decide) ?_
        obtain ⟨rfl, rfl⟩ := lf2 hf
        exact hret 21 _ dX1_tellsFree_21 rfl
      · have hf := ie c13 hf
        refine g_iconst X (v := 1) dX1_tellsFree_16 (by decide) ?_
        refine g_goto X (tgt := 21) dX1_tellsFree_17 (by decide) ?_
        obtain ⟨rfl, rfl⟩ := lf2 hf
        exact hret 21 _ dX1_tellsFree_21 rfl

theorem kS_X5_64 : wcS RX5 64 yJ6_bitCount_0f7a4 cJ6_bitCount_0f7a4 1 (some .int) 1 := ⟨q_ml_X5_64, q_st_yJ6_bitCount_0f7a4, q_in_J6, q_co_yJ6_bitCount_0f7a4, by decide +kernel⟩

def X5_keyOf_82 (f : Nat) (t : Nat) (s0 : Int32) (s1 : Int64) (m0 : Mem) : Option (Int64 × Mem) :=
  if (m0.1 t 3) = 0 then
    some (((s1 + s0.toInt64) * (1020 : Int64)) + ((0 : Int32).toInt64), m0)
  else
    some (((s1 + s0.toInt64) * (1020 : Int64)) + ((m0.1 f 1).toInt64), m0)
def X5_keyOf (f : Nat) (t : Nat) (p1 : Int32) (m0 : Mem) : Option (Int64 × Mem) :=
  if inn p1 6 then
  if inn p1 6 then
  if (m0.1 t 2) = 0 then
    X5_keyOf_82 f t (0 : Int32) (((((((((m0.1 1 4).toInt64) * (6 : Int64)) + ((m0.1 f 2).toInt64)) * (8 : Int64)) + ((m0.1 (f + 3) p1.toNatClampNeg).toInt64)) * (10 : Int64)) + ((m0.1 (f + 2) p1.toNatClampNeg).toInt64)) * (9 : Int64)) m0
  else
    if inn p1 6 then
    bi (J6_bitCount_0f7a4 (m0.1 (f + 4) p1.toNatClampNeg) m0) fun r75 m75 =>
    X5_keyOf_82 f t r75 (((((((((m0.1 1 4).toInt64) * (6 : Int64)) + ((m0.1 f 2).toInt64)) * (8 : Int64)) + ((m0.1 (f + 3) p1.toNatClampNeg).toInt64)) * (10 : Int64)) + ((m0.1 (f + 2) p1.toNatClampNeg).toInt64)) * (9 : Int64)) m75
    else none
  else none
  else none
abbrev rmX5_keyOf : Room := { frames := 1, cells := 0, slots := 0, locals := 20 }
set_option maxRecDepth 100000 in
set_option maxHeartbeats 4000000 in
theorem w_X5_keyOf_82 {Γ : Ga} {b : Nat} {ad : Nat → Nat} {nt : Nat} {z : Nat → Nat} {f : Nat} {t : Nat} {r9 : Int64} {m9 : Mem} (hf9 : isF f) (ht9 : isT nt t) (X : Cx Γ b cX5_keyOf 6 RX5 (some .long) rmX5_keyOf) (hret : ∀ (pc : Nat) (lv : List (Nat × Value)), decode cX5_keyOf pc = .ok (.lreturn, 1) → Go Γ b (sg ad nt z) 0 0 pc lv [.long r9] m9) (s0 : Int32) (s1 : Int64) (m0 : Mem) (hf : X5_keyOf_82 f t s0 s1 m0 = some (r9, m9)) : Go Γ b (sg ad nt z) 0 0 82 [(1, .ref (ad f)), (3, .ref (ad t))] [.int s0, .long s1] m0 := by
  refine g_i2l X dX5_keyOf_82 ?_
  refine g_ladd X dX5_keyOf_83 ?_
  refine g_lstore X (lv' := [(4, .long (s1 + s0.toInt64)), (1, .ref (ad f)), (3, .ref (ad t))]) dX5_keyOf_84 (by decide) rfl ?_
  refine g_lload X 0 dX5_keyOf_86 rfl ?_
  refine g_ldc2 X dX5_keyOf_88 q_cl_X5_109 ?_
  refine g_lmul X dX5_keyOf_91 ?_
  refine g_aload_n X 2 dX5_keyOf_92 rfl rfl ?_
  refine g_getI X t 6 3 dX5_keyOf_93 (T_lt0 ht9) (T_kd0 ht9) (by decide) rfl iw_X7 (by decide) rfl q_fl_X5_111 ?_
  refine g_if_eq X (tgt := 106) dX5_keyOf_96 (by decide) (fun c96 => ?_) (fun c96 => ?_)
  · have hf := it c96 hf
    refine g_iconst X (v := 0) dX5_keyOf_106 (by decide) ?_
    refine g_i2l X dX5_keyOf_107 ?_
    refine g_ladd X dX5_keyOf_108 ?_
    obtain ⟨rfl, rfl⟩ := lf2 hf
    exact hret 109 _ dX5_keyOf_109
  · have hf := ie c96 hf
    refine g_aload_n X 1 dX5_keyOf_99 rfl rfl ?_
    refine g_getI X f 0 1 dX5_keyOf_100 (F_lt0 hf9) (F_kd0 hf9) (by decide) rfl iw_X0 (by decide) rfl q_fl_X5_79 ?_
    refine g_goto X (tgt := 107) dX5_keyOf_103 (by decide) ?_
    refine g_i2l X dX5_keyOf_107 ?_
    refine g_ladd X dX5_keyOf_108 ?_
    obtain ⟨rfl, rfl⟩ := lf2 hf
    exact hret 109 _ dX5_keyOf_109
set_option maxRecDepth 100000 in
set_option maxHeartbeats 4000000 in
theorem c_X5_keyOf {l : Launch} {G : GG} {b : Nat} {ad : Nat → Nat} {nt : Nat} {z : Nat → Nat} {f : Nat} {t : Nat} {p1 : Int32} {m0 : Mem} {r9 : Int64} {m9 : Mem} (hf9 : isF f) (ht9 : isT nt t) (hf : X5_keyOf f t p1 m0 = some (r9, m9)) : MtL l yX5_keyOf cX5_keyOf 6 (some .long) rmX5_keyOf G b (sg ad nt z) m0 [.ref (ad 33), .ref (ad f), .int p1, .ref (ad t)] (pEL r9 (sg ad nt z) m9) := by
  refine mtL_of (by decide) (Nat.le_of_ble_eq_true rfl) rfl (fun Γ hG X hnm hr => ?_)
  have hret : ∀ (pc : Nat) (lv : List (Nat × Value)), decode cX5_keyOf pc = .ok (.lreturn, 1) → Go Γ b (sg ad nt z) 0 0 pc lv [.long r9] m9 := fun pc lv d => hr pc lv _ _ _ d ⟨rfl, rfl, rfl⟩
  show Go Γ b (sg ad nt z) 0 0 0 [(0, .ref (ad 33)), (1, .ref (ad f)), (2, .int p1), (3, .ref (ad t))] [] m0
  refine g_aload_n X 0 dX5_keyOf_0 rfl rfl ?_
  refine g_getr X (x := ad 1) 33 4 0 dX5_keyOf_1 (sgN (by decide)) rfl (by decide) rfl iw_X5 (by decide) rfl q_fl_X5_34 rfl ?_
  refine g_getI X 1 3 4 dX5_keyOf_4 (sgN (by decide)) rfl (by decide) rfl iw_X4 (by decide) rfl q_fl_X5_94 ?_
  refine g_i2l X dX5_keyOf_7 ?_
  refine g_lstore X (lv' := [(4, .long ((m0.1 1 4).toInt64)), (0, .ref (ad 33)), (1, .ref (ad f)), (2, .int p1), (3, .ref (ad t))]) dX5_keyOf_8 (by decide) rfl ?_
  refine g_lload X 0 dX5_keyOf_10 rfl ?_
  refine g_ldc2 X dX5_keyOf_12 q_cl_X5_97 ?_
  refine g_lmul X dX5_keyOf_15 ?_
  refine g_aload_n X 2 dX5_keyOf_16 rfl rfl ?_
  refine g_getI X f 0 2 dX5_keyOf_17 (F_lt0 hf9) (F_kd0 hf9) (by decide) rfl iw_X0 (by decide) rfl q_fl_X5_39 ?_
  refine g_i2l X dX5_keyOf_20 ?_
  refine g_ladd X dX5_keyOf_21 ?_
  refine g_lstore X (lv' := [(4, .long ((((m0.1 1 4).toInt64) * (6 : Int64)) + ((m0.1 f 2).toInt64))), (0, .ref (ad 33)), (1, .ref (ad f)), (2, .int p1), (3, .ref (ad t))]) dX5_keyOf_22 (by decide) rfl ?_
  refine g_lload X 0 dX5_keyOf_24 rfl ?_
  refine g_ldc2 X dX5_keyOf_26 q_cl_X5_99 ?_
  refine g_lmul X dX5_keyOf_29 ?_
  refine g_aload_n X 2 dX5_keyOf_30 rfl rfl ?_
  refine g_getr X (x := ad (f + 3)) f 0 5 dX5_keyOf_31 (F_lt0 hf9) (F_kd0 hf9) (by decide) rfl iw_X0 (by decide) rfl q_fl_X5_70 (F_r5 hf9) ?_
  refine g_iload_n X 3 dX5_keyOf_34 rfl rfl ?_
  obtain ⟨h35, hf⟩ := grd hf
  refine g_iald X (f + 3) (n := 6) dX5_keyOf_35 (F_lt3 hf9) (F_kd3 hf9) (F_ln3 hf9) h35 ?_
  refine g_i2l X dX5_keyOf_36 ?_
  refine g_ladd X dX5_keyOf_37 ?_
  refine g_lstore X (lv' := [(4, .long ((((((m0.1 1 4).toInt64) * (6 : Int64)) + ((m0.1 f 2).toInt64)) * (8 : Int64)) + ((m0.1 (f + 3) p1.toNatClampNeg).toInt64))), (0, .ref (ad 33)), (1, .ref (ad f)), (2, .int p1), (3, .ref (ad t))]) dX5_keyOf_38 (by decide) rfl ?_
  refine g_lload X 0 dX5_keyOf_40 rfl ?_
  refine g_ldc2 X dX5_keyOf_42 q_cl_X5_101 ?_
  refine g_lmul X dX5_keyOf_45 ?_
  refine g_aload_n X 2 dX5_keyOf_46 rfl rfl ?_
  refine g_getr X (x := ad (f + 2)) f 0 4 dX5_keyOf_47 (F_lt0 hf9) (F_kd0 hf9) (by decide) rfl iw_X0 (by decide) rfl q_fl_X5_58 (F_r4 hf9) ?_
  refine g_iload_n X 3 dX5_keyOf_50 rfl rfl ?_
  obtain ⟨h51, hf⟩ := grd hf
  refine g_iald X (f + 2) (n := 6) dX5_keyOf_51 (F_lt2 hf9) (F_kd2 hf9) (F_ln2 hf9) h51 ?_
  refine g_i2l X dX5_keyOf_52 ?_
  refine g_ladd X dX5_keyOf_53 ?_
  refine g_lstore X (lv' := [(4, .long ((((((((m0.1 1 4).toInt64) * (6 : Int64)) + ((m0.1 f 2).toInt64)) * (8 : Int64)) + ((m0.1 (f + 3) p1.toNatClampNeg).toInt64)) * (10 : Int64)) + ((m0.1 (f + 2) p1.toNatClampNeg).toInt64))), (0, .ref (ad 33)), (1, .ref (ad f)), (2, .int p1), (3, .ref (ad t))]) dX5_keyOf_54 (by decide) rfl ?_
  refine g_lload X 0 dX5_keyOf_56 rfl ?_
  refine g_ldc2 X dX5_keyOf_58 q_cl_X5_103 ?_
  refine g_lmul X dX5_keyOf_61 ?_
  refine g_aload_n X 4 dX5_keyOf_62 rfl rfl ?_
  refine g_getI X t 6 2 dX5_keyOf_63 (T_lt0 ht9) (T_kd0 ht9) (by decide) rfl iw_X7 (by decide) rfl q_fl_X5_105 ?_
  refine g_if_eq X (tgt := 81) dX5_keyOf_66 (by decide) (fun c66 => ?_) (fun c66 => ?_)
  · have hf := it c66 hf
    refine g_iconst X (v := 0) dX5_keyOf_81 (by decide) ?_
    refine g_pick [2, 4] (lv' := [(1, .ref (ad f)), (3, .ref (ad t))]) rfl ?_
    exact w_X5_keyOf_82 hf9 ht9 X hret (0 : Int32) (((((((((m0.1 1 4).toInt64) * (6 : Int64)) + ((m0.1 f 2).toInt64)) * (8 : Int64)) + ((m0.1 (f + 3) p1.toNatClampNeg).toInt64)) * (10 : Int64)) + ((m0.1 (f + 2) p1.toNatClampNeg).toInt64)) * (9 : Int64)) m0 hf
  · have hf := ie c66 hf
    refine g_aload_n X 2 dX5_keyOf_69 rfl rfl ?_
    refine g_getr X (x := ad (f + 4)) f 0 6 dX5_keyOf_70 (F_lt0 hf9) (F_kd0 hf9) (by decide) rfl iw_X0 (by decide) rfl q_fl_X5_61 (F_r6 hf9) ?_
    refine g_iload_n X 3 dX5_keyOf_73 rfl rfl ?_
    obtain ⟨h74, hf⟩ := grd hf
    refine g_iald X (f + 4) (n := 6) dX5_keyOf_74 (F_lt4 hf9) (F_kd4 hf9) (F_ln4 hf9) h74 ?_
    obtain ⟨r75, m75, h75, hf⟩ := bi_i hf
    refine g_eSI X [.int (m0.1 (f + 4) p1.toNatClampNeg)] kS_X5_64 (c_J6_bitCount_0f7a4 h75) dX5_keyOf_75 rfl rfl ⟨(Nat.le_of_ble_eq_true rfl), (Nat.le_of_ble_eq_true rfl)⟩ ⟨rfl, rfl⟩ ⟨(Nat.zero_le _), (Nat.zero_le _)⟩ (Nat.le_of_ble_eq_true rfl) ?_
    refine g_goto X (tgt := 82) dX5_keyOf_78 (by decide) ?_
    refine g_pick [2, 4] (lv' := [(1, .ref (ad f)), (3, .ref (ad t))]) rfl ?_
    exact w_X5_keyOf_82 hf9 ht9 X hret r75 (((((((((m0.1 1 4).toInt64) * (6 : Int64)) + ((m0.1 f 2).toInt64)) * (8 : Int64)) + ((m0.1 (f + 3) p1.toNatClampNeg).toInt64)) * (10 : Int64)) + ((m0.1 (f + 2) p1.toNatClampNeg).toInt64)) * (9 : Int64)) m75 hf

def X4_spreadF_168 (k39 : Int32 → Int32 → Int32 → Int32 → Mem → Option (Mem)) (k57 : Int32 → Int32 → Int32 → Int32 → Int32 → Mem → Option (Mem)) (v2 : Int32) (v4 : Int32) (v5 : Int32) (v6 : Int32) (v7 : Int32) (m0 : Mem) : Option (Mem) :=
  k57 v2 v4 v5 v6 (v7 + (1 : Int32)) m0
def X4_spreadF_162 (k39 : Int32 → Int32 → Int32 → Int32 → Mem → Option (Mem)) (k57 : Int32 → Int32 → Int32 → Int32 → Int32 → Mem → Option (Mem)) (k83 : Int32 → Int32 → Int32 → Int32 → Int32 → Int32 → Mem → Option (Mem)) (v2 : Int32) (v4 : Int32) (v5 : Int32) (v6 : Int32) (v7 : Int32) (v8 : Int32) (m0 : Mem) : Option (Mem) :=
  k83 v2 v4 v5 v6 v7 (v8 + (1 : Int32)) m0
def X4_spreadF_83 (k39 : Int32 → Int32 → Int32 → Int32 → Mem → Option (Mem)) (k57 : Int32 → Int32 → Int32 → Int32 → Int32 → Mem → Option (Mem)) : Nat → Int32 → Int32 → Int32 → Int32 → Int32 → Int32 → Mem → Option (Mem)
  | 0, _, _, _, _, _, _, _ => none
  | n + 1, v2, v4, v5, v6, v7, v8, m0 =>
    if (8 : Int32) ≤ v8 then
      X4_spreadF_168 k39 k57 v2 v4 v5 v6 v7 m0
    else
      if inn ((v7 * (8 : Int32)) + v8) 64 then
      if (m0.1 2 ((v7 * (8 : Int32)) + v8).toNatClampNeg) = 0 then
        X4_spreadF_162 k39 k57 (X4_spreadF_83 k39 k57 n) v2 v4 v5 v6 v7 v8 m0
      else
        if ((v2 >>> (v8 &&& 31)) &&& (1 : Int32)) = 0 then
          X4_spreadF_162 k39 k57 (X4_spreadF_83 k39 k57 n) v2 v4 v5 v6 v7 v8 m0
        else
          if inn (v4 + v7) 64 then
          if inn (v4 + v8) 64 then
          if (m0.1 3 (v4 + v8).toNatClampNeg) ≤ ((m0.1 3 (v4 + v7).toNatClampNeg) + (m0.1 2 ((v7 * (8 : Int32)) + v8).toNatClampNeg)) then
            X4_spreadF_162 k39 k57 (X4_spreadF_83 k39 k57 n) v2 v4 v5 v6 v7 v8 m0
          else
            if inn (v4 + v7) 64 then
            if inn (v4 + v8) 64 then
            X4_spreadF_162 k39 k57 (X4_spreadF_83 k39 k57 n) v2 v4 (1 : Int32) v6 v7 v8 (pI m0 3 (v4 + v8).toNatClampNeg ((m0.1 3 (v4 + v7).toNatClampNeg) + (m0.1 2 ((v7 * (8 : Int32)) + v8).toNatClampNeg)))
            else none
            else none
          else none
          else none
      else none
def X4_spreadF_57 (k39 : Int32 → Int32 → Int32 → Int32 → Mem → Option (Mem)) : Nat → Int32 → Int32 → Int32 → Int32 → Int32 → Mem → Option (Mem)
  | 0, _, _, _, _, _, _ => none
  | n + 1, v2, v4, v5, v6, v7, m0 =>
    if (8 : Int32) ≤ v7 then
      k39 v2 v4 v5 (v6 + (1 : Int32)) m0
    else
      if inn (v4 + v7) 64 then
      if (m0.1 3 (v4 + v7).toNatClampNeg) = (999 : Int32) then
        X4_spreadF_168 k39 (X4_spreadF_57 k39 n) v2 v4 v5 v6 v7 m0
      else
        X4_spreadF_83 k39 (X4_spreadF_57 k39 n) 10000 v2 v4 v5 v6 v7 (0 : Int32) m0
      else none
def X4_spreadF_39 : Nat → Int32 → Int32 → Int32 → Int32 → Mem → Option (Mem)
  | 0, _, _, _, _, _ => none
  | n + 1, v2, v4, v5, v6, m0 =>
    if (8 : Int32) ≤ v6 then
      some m0
    else
      if v5 = 0 then
        some m0
      else
        X4_spreadF_57 (X4_spreadF_39 n) 10000 v2 v4 (0 : Int32) v6 (0 : Int32) m0
def X4_spreadF_3 : Nat → Int32 → Int32 → Int32 → Int32 → Mem → Option (Mem)
  | 0, _, _, _, _, _ => none
  | n + 1, v1, v2, v4, v5, m0 =>
    if (8 : Int32) ≤ v5 then
      if inn (v4 + v1) 64 then
      X4_spreadF_39 10000 v2 v4 (1 : Int32) (0 : Int32) (pI m0 3 (v4 + v1).toNatClampNeg (0 : Int32))
      else none
    else
      if inn (v4 + v5) 64 then
      X4_spreadF_3 n v1 v2 v4 (v5 + (1 : Int32)) (pI m0 3 (v4 + v5).toNatClampNeg (999 : Int32))
      else none
def X4_spreadF (p0 : Int32) (p1 : Int32) (p3 : Int32) (m0 : Mem) : Option (Mem) :=
  X4_spreadF_3 10000 p0 p1 p3 (0 : Int32) m0
abbrev rmX4_spreadF : Room := { frames := 0, cells := 0, slots := 0, locals := 0 }
set_option maxRecDepth 100000 in
set_option maxHeartbeats 4000000 in
theorem w_X4_spreadF_168 {Γ : Ga} {b : Nat} {ad : Nat → Nat} {nt : Nat} {z : Nat → Nat} {k39 : Int32 → Int32 → Int32 → Int32 → Mem → Option (Mem)} {k57 : Int32 → Int32 → Int32 → Int32 → Int32 → Mem → Option (Mem)} {m9 : Mem} (X : Cx Γ b cX4_spread 10 RX4 (none) rmX4_spreadF) (hret : ∀ (pc : Nat) (lv : List (Nat × Value)), decode cX4_spread pc = .ok (.return_, 1) → Go Γ b (sg ad nt z) 0 0 pc lv [] m9) (hk39 : ∀ (v2 : Int32) (v4 : Int32) (v5 : Int32) (v6 : Int32) (m0 : Mem), k39 v2 v4 v5 v6 m0 = some m9 → Go Γ b (sg ad nt z) 0 0 39 [(0, .ref (ad 1)), (2, .int v2), (3, .ref (ad 3)), (4, .int v4), (5, .int v5), (6, .int v6)] [] m0) (hk57 : ∀ (v2 : Int32) (v4 : Int32) (v5 : Int32) (v6 : Int32) (v7 : Int32) (m0 : Mem), k57 v2 v4 v5 v6 v7 m0 = some m9 → Go Γ b (sg ad nt z) 0 0 57 [(0, .ref (ad 1)), (2, .int v2), (3, .ref (ad 3)), (4, .int v4), (5, .int v5), (6, .int v6), (7, .int v7)] [] m0) (v2 : Int32) (v4 : Int32) (v5 : Int32) (v6 : Int32) (v7 : Int32) (m0 : Mem) (hf : X4_spreadF_168 k39 k57 v2 v4 v5 v6 v7 m0 = some m9) : Go Γ b (sg ad nt z) 0 0 168 [(0, .ref (ad 1)), (2, .int v2), (3, .ref (ad 3)), (4, .int v4), (5, .int v5), (6, .int v6), (7, .int v7)] [] m0 := by
  refine g_iinc X 6 (v := v7 + (1 : Int32)) (lv' := [(7, .int (v7 + (1 : Int32))), (0, .ref (ad 1)), (2, .int v2), (3, .ref (ad 3)), (4, .int v4), (5, .int v5), (6, .int v6)]) dX4_spread_168 rfl rfl (by decide) rfl ?_
  refine g_goto X (tgt := 57) dX4_spread_171 (by decide) ?_
  refine g_pick [1, 2, 3, 4, 5, 6, 0] (lv' := [(0, .ref (ad 1)), (2, .int v2), (3, .ref (ad 3)), (4, .int v4), (5, .int v5), (6, .int v6), (7, .int (v7 + (1 : Int32)))]) rfl ?_
  exact hk57 v2 v4 v5 v6 (v7 + (1 : Int32)) m0 hf
set_option maxRecDepth 100000 in
set_option maxHeartbeats 4000000 in
theorem w_X4_spreadF_162 {Γ : Ga} {b : Nat} {ad : Nat → Nat} {nt : Nat} {z : Nat → Nat} {k39 : Int32 → Int32 → Int32 → Int32 → Mem → Option (Mem)} {k57 : Int32 → Int32 → Int32 → Int32 → Int32 → Mem → Option (Mem)} {k83 : Int32 → Int32 → Int32 → Int32 → Int32 → Int32 → Mem → Option (Mem)} {m9 : Mem} (X : Cx Γ b cX4_spread 10 RX4 (none) rmX4_spreadF) (hret : ∀ (pc : Nat) (lv : List (Nat × Value)), decode cX4_spread pc = .ok (.return_, 1) → Go Γ b (sg ad nt z) 0 0 pc lv [] m9) (hk39 : ∀ (v2 : Int32) (v4 : Int32) (v5 : Int32) (v6 : Int32) (m0 : Mem), k39 v2 v4 v5 v6 m0 = some m9 → Go Γ b (sg ad nt z) 0 0 39 [(0, .ref (ad 1)), (2, .int v2), (3, .ref (ad 3)), (4, .int v4), (5, .int v5), (6, .int v6)] [] m0) (hk57 : ∀ (v2 : Int32) (v4 : Int32) (v5 : Int32) (v6 : Int32) (v7 : Int32) (m0 : Mem), k57 v2 v4 v5 v6 v7 m0 = some m9 → Go Γ b (sg ad nt z) 0 0 57 [(0, .ref (ad 1)), (2, .int v2), (3, .ref (ad 3)), (4, .int v4), (5, .int v5), (6, .int v6), (7, .int v7)] [] m0) (hk83 : ∀ (v2 : Int32) (v4 : Int32) (v5 : Int32) (v6 : Int32) (v7 : Int32) (v8 : Int32) (m0 : Mem), k83 v2 v4 v5 v6 v7 v8 m0 = some m9 → Go Γ b (sg ad nt z) 0 0 83 [(0, .ref (ad 1)), (2, .int v2), (3, .ref (ad 3)), (4, .int v4), (5, .int v5), (6, .int v6), (7, .int v7), (8, .int v8)] [] m0) (v2 : Int32) (v4 : Int32) (v5 : Int32) (v6 : Int32) (v7 : Int32) (v8 : Int32) (m0 : Mem) (hf : X4_spreadF_162 k39 k57 k83 v2 v4 v5 v6 v7 v8 m0 = some m9) : Go Γ b (sg ad nt z) 0 0 162 [(0, .ref (ad 1)), (2, .int v2), (3, .ref (ad 3)), (4, .int v4), (5, .int v5), (6, .int v6), (7, .int v7), (8, .int v8)] [] m0 := by
  refine g_iinc X 7 (v := v8 + (1 : Int32)) (lv' := [(8, .int (v8 + (1 : Int32))), (0, .ref (ad 1)), (2, .int v2), (3, .ref (ad 3)), (4, .int v4), (5, .int v5), (6, .int v6), (7, .int v7)]) dX4_spread_162 rfl rfl (by decide) rfl ?_
  refine g_goto X (tgt := 83) dX4_spread_165 (by decide) ?_
  refine g_pick [1, 2, 3, 4, 5, 6, 7, 0] (lv' := [(0, .ref (ad 1)), (2, .int v2), (3, .ref (ad 3)), (4, .int v4), (5, .int v5), (6, .int v6), (7, .int v7), (8, .int (v8 + (1 : Int32)))]) rfl ?_
  exact hk83 v2 v4 v5 v6 v7 (v8 + (1 : Int32)) m0 hf
set_option maxRecDepth 100000 in
set_option maxHeartbeats 4000000 in
theorem w_X4_spreadF_83 {Γ : Ga} {b : Nat} {ad : Nat → Nat} {nt : Nat} {z : Nat → Nat} {k39 : Int32 → Int32 → Int32 → Int32 → Mem → Option (Mem)} {k57 : Int32 → Int32 → Int32 → Int32 → Int32 → Mem → Option (Mem)} {m9 : Mem} (X : Cx Γ b cX4_spread 10 RX4 (none) rmX4_spreadF) (hret : ∀ (pc : Nat) (lv : List (Nat × Value)), decode cX4_spread pc = .ok (.return_, 1) → Go Γ b (sg ad nt z) 0 0 pc lv [] m9) (hk39 : ∀ (v2 : Int32) (v4 : Int32) (v5 : Int32) (v6 : Int32) (m0 : Mem), k39 v2 v4 v5 v6 m0 = some m9 → Go Γ b (sg ad nt z) 0 0 39 [(0, .ref (ad 1)), (2, .int v2), (3, .ref (ad 3)), (4, .int v4), (5, .int v5), (6, .int v6)] [] m0) (hk57 : ∀ (v2 : Int32) (v4 : Int32) (v5 : Int32) (v6 : Int32) (v7 : Int32) (m0 : Mem), k57 v2 v4 v5 v6 v7 m0 = some m9 → Go Γ b (sg ad nt z) 0 0 57 [(0, .ref (ad 1)), (2, .int v2), (3, .ref (ad 3)), (4, .int v4), (5, .int v5), (6, .int v6), (7, .int v7)] [] m0) : ∀ (n : Nat) (v2 : Int32) (v4 : Int32) (v5 : Int32) (v6 : Int32) (v7 : Int32) (v8 : Int32) (m0 : Mem), X4_spreadF_83 k39 k57 n v2 v4 v5 v6 v7 v8 m0 = some m9 → Go Γ b (sg ad nt z) 0 0 83 [(0, .ref (ad 1)), (2, .int v2), (3, .ref (ad 3)), (4, .int v4), (5, .int v5), (6, .int v6), (7, .int v7), (8, .int v8)] [] m0 := by
  intro n
  induction n with
  | zero =>
    intro v2 v4 v5 v6 v7 v8 m0 hf
    cases hf
  | succ n ih =>
    intro v2 v4 v5 v6 v7 v8 m0 hf
    refine g_iload X 7 dX4_spread_83 rfl ?_
    refine g_bipush X (v := 8) dX4_spread_85 (by decide) ?_
    refine g_icmp_ge X (tgt := 168) dX4_spread_87 (by decide) (fun c87 => ?_) (fun c87 => ?_)
    · have hf := it c87 hf
      refine g_pick [0, 1, 2, 3, 4, 5, 6] (lv' := [(0, .ref (ad 1)), (2, .int v2), (3, .ref (ad 3)), (4, .int v4), (5, .int v5), (6, .int v6), (7, .int v7)]) rfl ?_
      exact w_X4_spreadF_168 X hret hk39 hk57 v2 v4 v5 v6 v7 m0 hf
    · have hf := ie c87 hf
      refine g_aload_n X 0 dX4_spread_90 rfl rfl ?_
      refine g_getr X (x := ad 2) 1 3 0 dX4_spread_91 (sgN (by decide)) rfl (by decide) rfl iw_X4 (by decide) rfl q_fl_X4_9 rfl ?_
      refine g_iload X 6 dX4_spread_94 rfl ?_
      refine g_bipush X (v := 8) dX4_spread_96 (by decide) ?_
      refine g_imul X dX4_spread_98 ?_
      refine g_iload X 7 dX4_spread_99 rfl ?_
      refine g_iadd X dX4_spread_101 ?_
      obtain ⟨h102, hf⟩ := grd hf
      refine g_iald X 2 (n := 64) dX4_spread_102 (sgN (by decide)) rfl rfl h102 ?_
      refine g_istore X (lv' := [(9, .int (m0.1 2 ((v7 * (8 : Int32)) + v8).toNatClampNeg)), (0, .ref (ad 1)), (2, .int v2), (3, .ref (ad 3)), (4, .int v4), (5, .int v5), (6, .int v6), (7, .int v7), (8, .int v8)]) dX4_spread_103 (by decide) rfl ?_
      refine g_iload X 0 dX4_spread_105 rfl ?_
      refine g_if_eq X (tgt := 162) dX4_spread_107 (by decide) (fun c107 => ?_) (fun c107 => ?_)
      · have hf := it c107 hf
        refine g_pick [1, 2, 3, 4, 5, 6, 7, 8] (lv' := [(0, .ref (ad 1)), (2, .int v2), (3, .ref (ad 3)), (4, .int v4), (5, .int v5), (6, .int v6), (7, .int v7), (8, .int v8)]) rfl ?_
        exact w_X4_spreadF_162 X hret hk39 hk57 ih v2 v4 v5 v6 v7 v8 m0 hf
      · have hf := ie c107 hf
        refine g_iload_n X 2 dX4_spread_110 rfl rfl ?_
        refine g_iload X 8 dX4_spread_111 rfl ?_
        refine g_ishr X dX4_spread_113 ?_
        refine g_iconst X (v := 1) dX4_spread_114 (by decide) ?_
        refine g_iand X dX4_spread_115 ?_
        refine g_if_ne X (tgt := 122) dX4_spread_116 (by decide) (fun c116 => ?_) (fun c116 => ?_)
        · have hf := ie c116 hf
          refine g_aload_n X 3 dX4_spread_122 rfl rfl ?_
          refine g_iload X 4 dX4_spread_123 rfl ?_
          refine g_iload X 7 dX4_spread_125 rfl ?_
          refine g_iadd X dX4_spread_127 ?_
          obtain ⟨h128, hf⟩ := grd hf
          refine g_iald X 3 (n := 64) dX4_spread_128 (sgN (by decide)) rfl rfl h128 ?_
          refine g_iload X 0 dX4_spread_129 rfl ?_
          refine g_iadd X dX4_spread_131 ?_
          refine g_aload_n X 3 dX4_spread_132 rfl rfl ?_
          refine g_iload X 4 dX4_spread_133 rfl ?_
          refine g_iload X 8 dX4_spread_135 rfl ?_
          refine g_iadd X dX4_spread_137 ?_
          obtain ⟨h138, hf⟩ := grd hf
          refine g_iald X 3 (n := 64) dX4_spread_138 (sgN (by decide)) rfl rfl h138 ?_
          refine g_icmp_ge X (tgt := 162) dX4_spread_139 (by decide) (fun c139 => ?_) (fun c139 => ?_)
          · have hf := it c139 hf
            refine g_pick [1, 2, 3, 4, 5, 6, 7, 8] (lv' := [(0, .ref (ad 1)), (2, .int v2), (3, .ref (ad 3)), (4, .int v4), (5, .int v5), (6, .int v6), (7, .int v7), (8, .int v8)]) rfl ?_
            exact w_X4_spreadF_162 X hret hk39 hk57 ih v2 v4 v5 v6 v7 v8 m0 hf
          · have hf := ie c139 hf
            refine g_aload_n X 3 dX4_spread_142 rfl rfl ?_
            refine g_iload X 4 dX4_spread_143 rfl ?_
            refine g_iload X 8 dX4_spread_145 rfl ?_
            refine g_iadd X dX4_spread_147 ?_
            refine g_aload_n X 3 dX4_spread_148 rfl rfl ?_
            refine g_iload X 4 dX4_spread_149 rfl ?_
            refine g_iload X 7 dX4_spread_151 rfl ?_
            refine g_iadd X dX4_spread_153 ?_
            obtain ⟨h154, hf⟩ := grd hf
            refine g_iald X 3 (n := 64) dX4_spread_154 (sgN (by decide)) rfl rfl h154 ?_
            refine g_iload X 0 dX4_spread_155 rfl ?_
            refine g_iadd X dX4_spread_157 ?_
            obtain ⟨h158, hf⟩ := grd hf
            refine g_iast X 3 (n := 64) dX4_spread_158 (sgN (by decide)) rfl rfl h158 ?_
            refine g_iconst X (v := 1) dX4_spread_159 (by decide) ?_
            refine g_istore X (lv' := [(5, .int (1 : Int32)), (9, .int (m0.1 2 ((v7 * (8 : Int32)) + v8).toNatClampNeg)), (0, .ref (ad 1)), (2, .int v2), (3, .ref (ad 3)), (4, .int v4), (6, .int v6), (7, .int v7), (8, .int v8)]) dX4_spread_160 (by decide) rfl ?_
            refine g_pick [2, 3, 4, 5, 0, 6, 7, 8] (lv' := [(0, .ref (ad 1)), (2, .int v2), (3, .ref (ad 3)), (4, .int v4), (5, .int (1 : Int32)), (6, .int v6), (7, .int v7), (8, .int v8)]) rfl ?_
            exact w_X4_spreadF_162 X hret hk39 hk57 ih v2 v4 (1 : Int32) v6 v7 v8 (pI m0 3 (v4 + v8).toNatClampNeg ((m0.1 3 (v4 + v7).toNatClampNeg) + (m0.1 2 ((v7 * (8 : Int32)) + v8).toNatClampNeg))) hf
        · have hf := it c116 hf
          refine g_goto X (tgt := 162) dX4_spread_119 (by decide) ?_
          refine g_pick [1, 2, 3, 4, 5, 6, 7, 8] (lv' := [(0, .ref (ad 1)), (2, .int v2), (3, .ref (ad 3)), (4, .int v4), (5, .int v5), (6, .int v6), (7, .int v7), (8, .int v8)]) rfl ?_
          exact w_X4_spreadF_162 X hret hk39 hk57 ih v2 v4 v5 v6 v7 v8 m0 hf
set_option maxRecDepth 100000 in
set_option maxHeartbeats 4000000 in
theorem w_X4_spreadF_57 {Γ : Ga} {b : Nat} {ad : Nat → Nat} {nt : Nat} {z : Nat → Nat} {k39 : Int32 → Int32 → Int32 → Int32 → Mem → Option (Mem)} {m9 : Mem} (X : Cx Γ b cX4_spread 10 RX4 (none) rmX4_spreadF) (hret : ∀ (pc : Nat) (lv : List (Nat × Value)), decode cX4_spread pc = .ok (.return_, 1) → Go Γ b (sg ad nt z) 0 0 pc lv [] m9) (hk39 : ∀ (v2 : Int32) (v4 : Int32) (v5 : Int32) (v6 : Int32) (m0 : Mem), k39 v2 v4 v5 v6 m0 = some m9 → Go Γ b (sg ad nt z) 0 0 39 [(0, .ref (ad 1)), (2, .int v2), (3, .ref (ad 3)), (4, .int v4), (5, .int v5), (6, .int v6)] [] m0) : ∀ (n : Nat) (v2 : Int32) (v4 : Int32) (v5 : Int32) (v6 : Int32) (v7 : Int32) (m0 : Mem), X4_spreadF_57 k39 n v2 v4 v5 v6 v7 m0 = some m9 → Go Γ b (sg ad nt z) 0 0 57 [(0, .ref (ad 1)), (2, .int v2), (3, .ref (ad 3)), (4, .int v4), (5, .int v5), (6, .int v6), (7, .int v7)] [] m0 := by
  intro n
  induction n with
  | zero =>
    intro v2 v4 v5 v6 v7 m0 hf
    cases hf
  | succ n ih =>
    intro v2 v4 v5 v6 v7 m0 hf
    refine g_iload X 6 dX4_spread_57 rfl ?_
    refine g_bipush X (v := 8) dX4_spread_59 (by decide) ?_
    refine g_icmp_ge X (tgt := 174) dX4_spread_61 (by decide) (fun c61 => ?_) (fun c61 => ?_)
    · have hf := it c61 hf
      refine g_iinc X 5 (v := v6 + (1 : Int32)) (lv' := [(6, .int (v6 + (1 : Int32))), (0, .ref (ad 1)), (2, .int v2), (3, .ref (ad 3)), (4, .int v4), (5, .int v5), (7, .int v7)]) dX4_spread_174 rfl rfl (by decide) rfl ?_
      refine g_goto X (tgt := 39) dX4_spread_177 (by decide) ?_
      refine g_pick [1, 2, 3, 4, 5, 0] (lv' := [(0, .ref (ad 1)), (2, .int v2), (3, .ref (ad 3)), (4, .int v4), (5, .int v5), (6, .int (v6 + (1 : Int32)))]) rfl ?_
      exact hk39 v2 v4 v5 (v6 + (1 : Int32)) m0 hf
    · have hf := ie c61 hf
      refine g_aload_n X 2 dX4_spread_64 rfl rfl ?_
      refine g_iload X 3 dX4_spread_65 rfl ?_
      refine g_iload X 6 dX4_spread_67 rfl ?_
      refine g_iadd X dX4_spread_69 ?_
      obtain ⟨h70, hf⟩ := grd hf
      refine g_iald X 3 (n := 64) dX4_spread_70 (sgN (by decide)) rfl rfl h70 ?_
      refine g_sipush X (v := 999) dX4_spread_71 (by decide) ?_
      refine g_icmp_ne X (tgt := 80) dX4_spread_74 (by decide) (fun c74 => ?_) (fun c74 => ?_)
      · have hf := ie c74 hf
        refine g_iconst X (v := 0) dX4_spread_80 (by decide) ?_
        refine g_istore X (lv' := [(8, .int (0 : Int32)), (0, .ref (ad 1)), (2, .int v2), (3, .ref (ad 3)), (4, .int v4), (5, .int v5), (6, .int v6), (7, .int v7)]) dX4_spread_81 (by decide) rfl ?_
        refine g_pick [1, 2, 3, 4, 5, 6, 7, 0] (lv' := [(0, .ref (ad 1)), (2, .int v2), (3, .ref (ad 3)), (4, .int v4), (5, .int v5), (6, .int v6), (7, .int v7), (8, .int (0 : Int32))]) rfl ?_
        exact w_X4_spreadF_83 X hret hk39 ih 10000 v2 v4 v5 v6 v7 (0 : Int32) m0 hf
      · have hf := it c74 hf
        refine g_goto X (tgt := 168) dX4_spread_77 (by decide) ?_
        exact w_X4_spreadF_168 X hret hk39 ih v2 v4 v5 v6 v7 m0 hf
set_option maxRecDepth 100000 in
set_option maxHeartbeats 4000000 in
theorem w_X4_spreadF_39 {Γ : Ga} {b : Nat} {ad : Nat → Nat} {nt : Nat} {z : Nat → Nat} {m9 : Mem} (X : Cx Γ b cX4_spread 10 RX4 (none) rmX4_spreadF) (hret : ∀ (pc : Nat) (lv : List (Nat × Value)), decode cX4_spread pc = .ok (.return_, 1) → Go Γ b (sg ad nt z) 0 0 pc lv [] m9) : ∀ (n : Nat) (v2 : Int32) (v4 : Int32) (v5 : Int32) (v6 : Int32) (m0 : Mem), X4_spreadF_39 n v2 v4 v5 v6 m0 = some m9 → Go Γ b (sg ad nt z) 0 0 39 [(0, .ref (ad 1)), (2, .int v2), (3, .ref (ad 3)), (4, .int v4), (5, .int v5), (6, .int v6)] [] m0 := by
  intro n
  induction n with
  | zero =>
    intro v2 v4 v5 v6 m0 hf
    cases hf
  | succ n ih =>
    intro v2 v4 v5 v6 m0 hf
    refine g_iload X 5 dX4_spread_39 rfl ?_
    refine g_bipush X (v := 8) dX4_spread_41 (by decide) ?_
    refine g_icmp_ge X (tgt := 180) dX4_spread_43 (by decide) (fun c43 => ?_) (fun c43 => ?_)
    · have hf := it c43 hf
      obtain rfl := lf1 hf
      exact hret 180 _ dX4_spread_180
    · have hf := ie c43 hf
      refine g_iload X 4 dX4_spread_46 rfl ?_
      refine g_if_eq X (tgt := 180) dX4_spread_48 (by decide) (fun c48 => ?_) (fun c48 => ?_)
      · have hf := it c48 hf
        obtain rfl := lf1 hf
        exact hret 180 _ dX4_spread_180
      · have hf := ie c48 hf
        refine g_iconst X (v := 0) dX4_spread_51 (by decide) ?_
        refine g_istore X (lv' := [(5, .int (0 : Int32)), (0, .ref (ad 1)), (2, .int v2), (3, .ref (ad 3)), (4, .int v4), (6, .int v6)]) dX4_spread_52 (by decide) rfl ?_
        refine g_iconst X (v := 0) dX4_spread_54 (by decide) ?_
        refine g_istore X (lv' := [(7, .int (0 : Int32)), (5, .int (0 : Int32)), (0, .ref (ad 1)), (2, .int v2), (3, .ref (ad 3)), (4, .int v4), (6, .int v6)]) dX4_spread_55 (by decide) rfl ?_
        refine g_pick [2, 3, 4, 5, 1, 6, 0] (lv' := [(0, .ref (ad 1)), (2, .int v2), (3, .ref (ad 3)), (4, .int v4), (5, .int (0 : Int32)), (6, .int v6), (7, .int (0 : Int32))]) rfl ?_
        exact w_X4_spreadF_57 X hret ih 10000 v2 v4 (0 : Int32) v6 (0 : Int32) m0 hf
set_option maxRecDepth 100000 in
set_option maxHeartbeats 4000000 in
theorem w_X4_spreadF_3 {Γ : Ga} {b : Nat} {ad : Nat → Nat} {nt : Nat} {z : Nat → Nat} {m9 : Mem} (X : Cx Γ b cX4_spread 10 RX4 (none) rmX4_spreadF) (hret : ∀ (pc : Nat) (lv : List (Nat × Value)), decode cX4_spread pc = .ok (.return_, 1) → Go Γ b (sg ad nt z) 0 0 pc lv [] m9) : ∀ (n : Nat) (v1 : Int32) (v2 : Int32) (v4 : Int32) (v5 : Int32) (m0 : Mem), X4_spreadF_3 n v1 v2 v4 v5 m0 = some m9 → Go Γ b (sg ad nt z) 0 0 3 [(0, .ref (ad 1)), (1, .int v1), (2, .int v2), (3, .ref (ad 3)), (4, .int v4), (5, .int v5)] [] m0 := by
  intro n
  induction n with
  | zero =>
    intro v1 v2 v4 v5 m0 hf
    cases hf
  | succ n ih =>
    intro v1 v2 v4 v5 m0 hf
    refine g_iload X 5 dX4_spread_3 rfl ?_
    refine g_bipush X (v := 8) dX4_spread_5 (by decide) ?_
    refine g_icmp_ge X (tgt := 26) dX4_spread_7 (by decide) (fun c7 => ?_) (fun c7 => ?_)
    · have hf := it c7 hf
      refine g_aload_n X 3 dX4_spread_26 rfl rfl ?_
      refine g_iload X 4 dX4_spread_27 rfl ?_
      refine g_iload_n X 1 dX4_spread_29 rfl rfl ?_
      refine g_iadd X dX4_spread_30 ?_
      refine g_iconst X (v := 0) dX4_spread_31 (by decide) ?_
      obtain ⟨h32, hf⟩ := grd hf
      refine g_iast X 3 (n := 64) dX4_spread_32 (sgN (by decide)) rfl rfl h32 ?_
      refine g_iconst X (v := 1) dX4_spread_33 (by decide) ?_
      refine g_istore X (lv' := [(5, .int (1 : Int32)), (0, .ref (ad 1)), (1, .int v1), (2, .int v2), (3, .ref (ad 3)), (4, .int v4)]) dX4_spread_34 (by decide) rfl ?_
      refine g_iconst X (v := 0) dX4_spread_36 (by decide) ?_
      refine g_istore X (lv' := [(6, .int (0 : Int32)), (5, .int (1 : Int32)), (0, .ref (ad 1)), (1, .int v1), (2, .int v2), (3, .ref (ad 3)), (4, .int v4)]) dX4_spread_37 (by decide) rfl ?_
      refine g_pick [2, 4, 5, 6, 1, 0] (lv' := [(0, .ref (ad 1)), (2, .int v2), (3, .ref (ad 3)), (4, .int v4), (5, .int (1 : Int32)), (6, .int (0 : Int32))]) rfl ?_
      exact w_X4_spreadF_39 X hret 10000 v2 v4 (1 : Int32) (0 : Int32) (pI m0 3 (v4 + v1).toNatClampNeg (0 : Int32)) hf
    · have hf := ie c7 hf
      refine g_aload_n X 3 dX4_spread_10 rfl rfl ?_
      refine g_iload X 4 dX4_spread_11 rfl ?_
      refine g_iload X 5 dX4_spread_13 rfl ?_
      refine g_iadd X dX4_spread_15 ?_
      refine g_sipush X (v := 999) dX4_spread_16 (by decide) ?_
      obtain ⟨h19, hf⟩ := grd hf
      refine g_iast X 3 (n := 64) dX4_spread_19 (sgN (by decide)) rfl rfl h19 ?_
      refine g_iinc X 5 (v := v5 + (1 : Int32)) (lv' := [(5, .int (v5 + (1 : Int32))), (0, .ref (ad 1)), (1, .int v1), (2, .int v2), (3, .ref (ad 3)), (4, .int v4)]) dX4_spread_20 rfl rfl (by decide) rfl ?_
      refine g_goto X (tgt := 3) dX4_spread_23 (by decide) ?_
      refine g_pick [1, 2, 3, 4, 5, 0] (lv' := [(0, .ref (ad 1)), (1, .int v1), (2, .int v2), (3, .ref (ad 3)), (4, .int v4), (5, .int (v5 + (1 : Int32)))]) rfl ?_
      exact ih v1 v2 v4 (v5 + (1 : Int32)) (pI m0 3 (v4 + v5).toNatClampNeg (999 : Int32)) hf
set_option maxRecDepth 100000 in
set_option maxHeartbeats 4000000 in
theorem c_X4_spreadF {l : Launch} {G : GG} {b : Nat} {ad : Nat → Nat} {nt : Nat} {z : Nat → Nat} {p0 : Int32} {p1 : Int32} {p3 : Int32} {m0 : Mem} {m9 : Mem} (hf : X4_spreadF p0 p1 p3 m0 = some m9) : MtV l yX4_spread cX4_spread 10 (none) rmX4_spreadF G b (sg ad nt z) m0 [.ref (ad 1), .int p0, .int p1, .ref (ad 3), .int p3] (pEV (sg ad nt z) m9) := by
  refine mtV_of (by decide) (Nat.le_of_ble_eq_true rfl) rfl (fun Γ hG X hnm hr => ?_)
  have hret : ∀ (pc : Nat) (lv : List (Nat × Value)), decode cX4_spread pc = .ok (.return_, 1) → Go Γ b (sg ad nt z) 0 0 pc lv [] m9 := fun pc lv d => hr pc lv _ _ d ⟨rfl, rfl⟩
  show Go Γ b (sg ad nt z) 0 0 0 [(0, .ref (ad 1)), (1, .int p0), (2, .int p1), (3, .ref (ad 3)), (4, .int p3)] [] m0
  refine g_iconst X (v := 0) dX4_spread_0 (by decide) ?_
  refine g_istore X (lv' := [(5, .int (0 : Int32)), (0, .ref (ad 1)), (1, .int p0), (2, .int p1), (3, .ref (ad 3)), (4, .int p3)]) dX4_spread_1 (by decide) rfl ?_
  refine g_pick [1, 2, 3, 4, 5, 0] (lv' := [(0, .ref (ad 1)), (1, .int p0), (2, .int p1), (3, .ref (ad 3)), (4, .int p3), (5, .int (0 : Int32))]) rfl ?_
  exact w_X4_spreadF_3 X hret 10000 p0 p1 p3 (0 : Int32) m0 hf

def X4_spreadS_168 (k39 : Int32 → Int32 → Int32 → Int32 → Mem → Option (Mem)) (k57 : Int32 → Int32 → Int32 → Int32 → Int32 → Mem → Option (Mem)) (v2 : Int32) (v4 : Int32) (v5 : Int32) (v6 : Int32) (v7 : Int32) (m0 : Mem) : Option (Mem) :=
  k57 v2 v4 v5 v6 (v7 + (1 : Int32)) m0
def X4_spreadS_162 (k39 : Int32 → Int32 → Int32 → Int32 → Mem → Option (Mem)) (k57 : Int32 → Int32 → Int32 → Int32 → Int32 → Mem → Option (Mem)) (k83 : Int32 → Int32 → Int32 → Int32 → Int32 → Int32 → Mem → Option (Mem)) (v2 : Int32) (v4 : Int32) (v5 : Int32) (v6 : Int32) (v7 : Int32) (v8 : Int32) (m0 : Mem) : Option (Mem) :=
  k83 v2 v4 v5 v6 v7 (v8 + (1 : Int32)) m0
def X4_spreadS_83 (k39 : Int32 → Int32 → Int32 → Int32 → Mem → Option (Mem)) (k57 : Int32 → Int32 → Int32 → Int32 → Int32 → Mem → Option (Mem)) : Nat → Int32 → Int32 → Int32 → Int32 → Int32 → Int32 → Mem → Option (Mem)
  | 0, _, _, _, _, _, _, _ => none
  | n + 1, v2, v4, v5, v6, v7, v8, m0 =>
    if (8 : Int32) ≤ v8 then
      X4_spreadS_168 k39 k57 v2 v4 v5 v6 v7 m0
    else
      if inn ((v7 * (8 : Int32)) + v8) 64 then
      if (m0.1 2 ((v7 * (8 : Int32)) + v8).toNatClampNeg) = 0 then
        X4_spreadS_162 k39 k57 (X4_spreadS_83 k39 k57 n) v2 v4 v5 v6 v7 v8 m0
      else
        if ((v2 >>> (v8 &&& 31)) &&& (1 : Int32)) = 0 then
          X4_spreadS_162 k39 k57 (X4_spreadS_83 k39 k57 n) v2 v4 v5 v6 v7 v8 m0
        else
          if inn (v4 + v7) 8 then
          if inn (v4 + v8) 8 then
          if (m0.1 4 (v4 + v8).toNatClampNeg) ≤ ((m0.1 4 (v4 + v7).toNatClampNeg) + (m0.1 2 ((v7 * (8 : Int32)) + v8).toNatClampNeg)) then
            X4_spreadS_162 k39 k57 (X4_spreadS_83 k39 k57 n) v2 v4 v5 v6 v7 v8 m0
          else
            if inn (v4 + v7) 8 then
            if inn (v4 + v8) 8 then
            X4_spreadS_162 k39 k57 (X4_spreadS_83 k39 k57 n) v2 v4 (1 : Int32) v6 v7 v8 (pI m0 4 (v4 + v8).toNatClampNeg ((m0.1 4 (v4 + v7).toNatClampNeg) + (m0.1 2 ((v7 * (8 : Int32)) + v8).toNatClampNeg)))
            else none
            else none
          else none
          else none
      else none
def X4_spreadS_57 (k39 : Int32 → Int32 → Int32 → Int32 → Mem → Option (Mem)) : Nat → Int32 → Int32 → Int32 → Int32 → Int32 → Mem → Option (Mem)
  | 0, _, _, _, _, _, _ => none
  | n + 1, v2, v4, v5, v6, v7, m0 =>
    if (8 : Int32) ≤ v7 then
      k39 v2 v4 v5 (v6 + (1 : Int32)) m0
    else
      if inn (v4 + v7) 8 then
      if (m0.1 4 (v4 + v7).toNatClampNeg) = (999 : Int32) then
        X4_spreadS_168 k39 (X4_spreadS_57 k39 n) v2 v4 v5 v6 v7 m0
      else
        X4_spreadS_83 k39 (X4_spreadS_57 k39 n) 10000 v2 v4 v5 v6 v7 (0 : Int32) m0
      else none
def X4_spreadS_39 : Nat → Int32 → Int32 → Int32 → Int32 → Mem → Option (Mem)
  | 0, _, _, _, _, _ => none
  | n + 1, v2, v4, v5, v6, m0 =>
    if (8 : Int32) ≤ v6 then
      some m0
    else
      if v5 = 0 then
        some m0
      else
        X4_spreadS_57 (X4_spreadS_39 n) 10000 v2 v4 (0 : Int32) v6 (0 : Int32) m0
def X4_spreadS_3 : Nat → Int32 → Int32 → Int32 → Int32 → Mem → Option (Mem)
  | 0, _, _, _, _, _ => none
  | n + 1, v1, v2, v4, v5, m0 =>
    if (8 : Int32) ≤ v5 then
      if inn (v4 + v1) 8 then
      X4_spreadS_39 10000 v2 v4 (1 : Int32) (0 : Int32) (pI m0 4 (v4 + v1).toNatClampNeg (0 : Int32))
      else none
    else
      if inn (v4 + v5) 8 then
      X4_spreadS_3 n v1 v2 v4 (v5 + (1 : Int32)) (pI m0 4 (v4 + v5).toNatClampNeg (999 : Int32))
      else none
def X4_spreadS (p0 : Int32) (p1 : Int32) (p3 : Int32) (m0 : Mem) : Option (Mem) :=
  X4_spreadS_3 10000 p0 p1 p3 (0 : Int32) m0
abbrev rmX4_spreadS : Room := { frames := 0, cells := 0, slots := 0, locals := 0 }
set_option maxRecDepth 100000 in
set_option maxHeartbeats 4000000 in
theorem w_X4_spreadS_168 {Γ : Ga} {b : Nat} {ad : Nat → Nat} {nt : Nat} {z : Nat → Nat} {k39 : Int32 → Int32 → Int32 → Int32 → Mem → Option (Mem)} {k57 : Int32 → Int32 → Int32 → Int32 → Int32 → Mem → Option (Mem)} {m9 : Mem} (X : Cx Γ b cX4_spread 10 RX4 (none) rmX4_spreadS) (hret : ∀ (pc : Nat) (lv : List (Nat × Value)), decode cX4_spread pc = .ok (.return_, 1) → Go Γ b (sg ad nt z) 0 0 pc lv [] m9) (hk39 : ∀ (v2 : Int32) (v4 : Int32) (v5 : Int32) (v6 : Int32) (m0 : Mem), k39 v2 v4 v5 v6 m0 = some m9 → Go Γ b (sg ad nt z) 0 0 39 [(0, .ref (ad 1)), (2, .int v2), (3, .ref (ad 4)), (4, .int v4), (5, .int v5), (6, .int v6)] [] m0) (hk57 : ∀ (v2 : Int32) (v4 : Int32) (v5 : Int32) (v6 : Int32) (v7 : Int32) (m0 : Mem), k57 v2 v4 v5 v6 v7 m0 = some m9 → Go Γ b (sg ad nt z) 0 0 57 [(0, .ref (ad 1)), (2, .int v2), (3, .ref (ad 4)), (4, .int v4), (5, .int v5), (6, .int v6), (7, .int v7)] [] m0) (v2 : Int32) (v4 : Int32) (v5 : Int32) (v6 : Int32) (v7 : Int32) (m0 : Mem) (hf : X4_spreadS_168 k39 k57 v2 v4 v5 v6 v7 m0 = some m9) : Go Γ b (sg ad nt z) 0 0 168 [(0, .ref (ad 1)), (2, .int v2), (3, .ref (ad 4)), (4, .int v4), (5, .int v5), (6, .int v6), (7, .int v7)] [] m0 := by
  refine g_iinc X 6 (v := v7 + (1 : Int32)) (lv' := [(7, .int (v7 + (1 : Int32))), (0, .ref (ad 1)), (2, .int v2), (3, .ref (ad 4)), (4, .int v4), (5, .int v5), (6, .int v6)]) dX4_spread_168 rfl rfl (by decide) rfl ?_
  refine g_goto X (tgt := 57) dX4_spread_171 (by decide) ?_
  refine g_pick [1, 2, 3, 4, 5, 6, 0] (lv' := [(0, .ref (ad 1)), (2, .int v2), (3, .ref (ad 4)), (4, .int v4), (5, .int v5), (6, .int v6), (7, .int (v7 + (1 : Int32)))]) rfl ?_
  exact hk57 v2 v4 v5 v6 (v7 + (1 : Int32)) m0 hf
set_option maxRecDepth 100000 in
set_option maxHeartbeats 4000000 in
theorem w_X4_spreadS_162 {Γ : Ga} {b : Nat} {ad : Nat → Nat} {nt : Nat} {z : Nat → Nat} {k39 : Int32 → Int32 → Int32 → Int32 → Mem → Option (Mem)} {k57 : Int32 → Int32 → Int32 → Int32 → Int32 → Mem → Option (Mem)} {k83 : Int32 → Int32 → Int32 → Int32 → Int32 → Int32 → Mem → Option (Mem)} {m9 : Mem} (X : Cx Γ b cX4_spread 10 RX4 (none) rmX4_spreadS) (hret : ∀ (pc : Nat) (lv : List (Nat × Value)), decode cX4_spread pc = .ok (.return_, 1) → Go Γ b (sg ad nt z) 0 0 pc lv [] m9) (hk39 : ∀ (v2 : Int32) (v4 : Int32) (v5 : Int32) (v6 : Int32) (m0 : Mem), k39 v2 v4 v5 v6 m0 = some m9 → Go Γ b (sg ad nt z) 0 0 39 [(0, .ref (ad 1)), (2, .int v2), (3, .ref (ad 4)), (4, .int v4), (5, .int v5), (6, .int v6)] [] m0) (hk57 : ∀ (v2 : Int32) (v4 : Int32) (v5 : Int32) (v6 : Int32) (v7 : Int32) (m0 : Mem), k57 v2 v4 v5 v6 v7 m0 = some m9 → Go Γ b (sg ad nt z) 0 0 57 [(0, .ref (ad 1)), (2, .int v2), (3, .ref (ad 4)), (4, .int v4), (5, .int v5), (6, .int v6), (7, .int v7)] [] m0) (hk83 : ∀ (v2 : Int32) (v4 : Int32) (v5 : Int32) (v6 : Int32) (v7 : Int32) (v8 : Int32) (m0 : Mem), k83 v2 v4 v5 v6 v7 v8 m0 = some m9 → Go Γ b (sg ad nt z) 0 0 83 [(0, .ref (ad 1)), (2, .int v2), (3, .ref (ad 4)), (4, .int v4), (5, .int v5), (6, .int v6), (7, .int v7), (8, .int v8)] [] m0) (v2 : Int32) (v4 : Int32) (v5 : Int32) (v6 : Int32) (v7 : Int32) (v8 : Int32) (m0 : Mem) (hf : X4_spreadS_162 k39 k57 k83 v2 v4 v5 v6 v7 v8 m0 = some m9) : Go Γ b (sg ad nt z) 0 0 162 [(0, .ref (ad 1)), (2, .int v2), (3, .ref (ad 4)), (4, .int v4), (5, .int v5), (6, .int v6), (7, .int v7), (8, .int v8)] [] m0 := by
  refine g_iinc X 7 (v := v8 + (1 : Int32)) (lv' := [(8, .int (v8 + (1 : Int32))), (0, .ref (ad 1)), (2, .int v2), (3, .ref (ad 4)), (4, .int v4), (5, .int v5), (6, .int v6), (7, .int v7)]) dX4_spread_162 rfl rfl (by decide) rfl ?_
  refine g_goto X (tgt := 83) dX4_spread_165 (by decide) ?_
  refine g_pick [1, 2, 3, 4, 5, 6, 7, 0] (lv' := [(0, .ref (ad 1)), (2, .int v2), (3, .ref (ad 4)), (4, .int v4), (5, .int v5), (6, .int v6), (7, .int v7), (8, .int (v8 + (1 : Int32)))]) rfl ?_
  exact hk83 v2 v4 v5 v6 v7 (v8 + (1 : Int32)) m0 hf
set_option maxRecDepth 100000 in
set_option maxHeartbeats 4000000 in
theorem w_X4_spreadS_83 {Γ : Ga} {b : Nat} {ad : Nat → Nat} {nt : Nat} {z : Nat → Nat} {k39 : Int32 → Int32 → Int32 → Int32 → Mem → Option (Mem)} {k57 : Int32 → Int32 → Int32 → Int32 → Int32 → Mem → Option (Mem)} {m9 : Mem} (X : Cx Γ b cX4_spread 10 RX4 (none) rmX4_spreadS) (hret : ∀ (pc : Nat) (lv : List (Nat × Value)), decode cX4_spread pc = .ok (.return_, 1) → Go Γ b (sg ad nt z) 0 0 pc lv [] m9) (hk39 : ∀ (v2 : Int32) (v4 : Int32) (v5 : Int32) (v6 : Int32) (m0 : Mem), k39 v2 v4 v5 v6 m0 = some m9 → Go Γ b (sg ad nt z) 0 0 39 [(0, .ref (ad 1)), (2, .int v2), (3, .ref (ad 4)), (4, .int v4), (5, .int v5), (6, .int v6)] [] m0) (hk57 : ∀ (v2 : Int32) (v4 : Int32) (v5 : Int32) (v6 : Int32) (v7 : Int32) (m0 : Mem), k57 v2 v4 v5 v6 v7 m0 = some m9 → Go Γ b (sg ad nt z) 0 0 57 [(0, .ref (ad 1)), (2, .int v2), (3, .ref (ad 4)), (4, .int v4), (5, .int v5), (6, .int v6), (7, .int v7)] [] m0) : ∀ (n : Nat) (v2 : Int32) (v4 : Int32) (v5 : Int32) (v6 : Int32) (v7 : Int32) (v8 : Int32) (m0 : Mem), X4_spreadS_83 k39 k57 n v2 v4 v5 v6 v7 v8 m0 = some m9 → Go Γ b (sg ad nt z) 0 0 83 [(0, .ref (ad 1)), (2, .int v2), (3, .ref (ad 4)), (4, .int v4), (5, .int v5), (6, .int v6), (7, .int v7), (8, .int v8)] [] m0 := by
  intro n
  induction n with
  | zero =>
    intro v2 v4 v5 v6 v7 v8 m0 hf
    cases hf
  | succ n ih =>
    intro v2 v4 v5 v6 v7 v8 m0 hf
    refine g_iload X 7 dX4_spread_83 rfl ?_
    refine g_bipush X (v := 8) dX4_spread_85 (by decide) ?_
    refine g_icmp_ge X (tgt := 168) dX4_spread_87 (by decide) (fun c87 => ?_) (fun c87 => ?_)
    · have hf := it c87 hf
      refine g_pick [0, 1, 2, 3, 4, 5, 6] (lv' := [(0, .ref (ad 1)), (2, .int v2), (3, .ref (ad 4)), (4, .int v4), (5, .int v5), (6, .int v6), (7, .int v7)]) rfl ?_
      exact w_X4_spreadS_168 X hret hk39 hk57 v2 v4 v5 v6 v7 m0 hf
    · have hf := ie c87 hf
      refine g_aload_n X 0 dX4_spread_90 rfl rfl ?_
      refine g_getr X (x := ad 2) 1 3 0 dX4_spread_91 (sgN (by decide)) rfl (by decide) rfl iw_X4 (by decide) rfl q_fl_X4_9 rfl ?_
      refine g_iload X 6 dX4_spread_94 rfl ?_
      refine g_bipush X (v := 8) dX4_spread_96 (by decide) ?_
      refine g_imul X dX4_spread_98 ?_
      refine g_iload X 7 dX4_spread_99 rfl ?_
      refine g_iadd X dX4_spread_101 ?_
      obtain ⟨h102, hf⟩ := grd hf
      refine g_iald X 2 (n := 64) dX4_spread_102 (sgN (by decide)) rfl rfl h102 ?_
      refine g_istore X (lv' := [(9, .int (m0.1 2 ((v7 * (8 : Int32)) + v8).toNatClampNeg)), (0, .ref (ad 1)), (2, .int v2), (3, .ref (ad 4)), (4, .int v4), (5, .int v5), (6, .int v6), (7, .int v7), (8, .int v8)]) dX4_spread_103 (by decide) rfl ?_
      refine g_iload X 0 dX4_spread_105 rfl ?_
      refine g_if_eq X (tgt := 162) dX4_spread_107 (by decide) (fun c107 => ?_) (fun c107 => ?_)
      · have hf := it c107 hf
        refine g_pick [1, 2, 3, 4, 5, 6, 7, 8] (lv' := [(0, .ref (ad 1)), (2, .int v2), (3, .ref (ad 4)), (4, .int v4), (5, .int v5), (6, .int v6), (7, .int v7), (8, .int v8)]) rfl ?_
        exact w_X4_spreadS_162 X hret hk39 hk57 ih v2 v4 v5 v6 v7 v8 m0 hf
      · have hf := ie c107 hf
        refine g_iload_n X 2 dX4_spread_110 rfl rfl ?_
        refine g_iload X 8 dX4_spread_111 rfl ?_
        refine g_ishr X dX4_spread_113 ?_
        refine g_iconst X (v := 1) dX4_spread_114 (by decide) ?_
        refine g_iand X dX4_spread_115 ?_
        refine g_if_ne X (tgt := 122) dX4_spread_116 (by decide) (fun c116 => ?_) (fun c116 => ?_)
        · have hf := ie c116 hf
          refine g_aload_n X 3 dX4_spread_122 rfl rfl ?_
          refine g_iload X 4 dX4_spread_123 rfl ?_
          refine g_iload X 7 dX4_spread_125 rfl ?_
          refine g_iadd X dX4_spread_127 ?_
          obtain ⟨h128, hf⟩ := grd hf
          refine g_iald X 4 (n := 8) dX4_spread_128 (sgN (by decide)) rfl rfl h128 ?_
          refine g_iload X 0 dX4_spread_129 rfl ?_
          refine g_iadd X dX4_spread_131 ?_
          refine g_aload_n X 3 dX4_spread_132 rfl rfl ?_
          refine g_iload X 4 dX4_spread_133 rfl ?_
          refine g_iload X 8 dX4_spread_135 rfl ?_
          refine g_iadd X dX4_spread_137 ?_
          obtain ⟨h138, hf⟩ := grd hf
          refine g_iald X 4 (n := 8) dX4_spread_138 (sgN (by decide)) rfl rfl h138 ?_
          refine g_icmp_ge X (tgt := 162) dX4_spread_139 (by decide) (fun c139 => ?_) (fun c139 => ?_)
          · have hf := it c139 hf
            refine g_pick [1, 2, 3, 4, 5, 6, 7, 8] (lv' := [(0, .ref (ad 1)), (2, .int v2), (3, .ref (ad 4)), (4, .int v4), (5, .int v5), (6, .int v6), (7, .int v7), (8, .int v8)]) rfl ?_
            exact w_X4_spreadS_162 X hret hk39 hk57 ih v2 v4 v5 v6 v7 v8 m0 hf
          · have hf := ie c139 hf
            refine g_aload_n X 3 dX4_spread_142 rfl rfl ?_
            refine g_iload X 4 dX4_spread_143 rfl ?_
            refine g_iload X 8 dX4_spread_145 rfl ?_
            refine g_iadd X dX4_spread_147 ?_
            refine g_aload_n X 3 dX4_spread_148 rfl rfl ?_
            refine g_iload X 4 dX4_spread_149 rfl ?_
            refine g_iload X 7 dX4_spread_151 rfl ?_
            refine g_iadd X dX4_spread_153 ?_
            obtain ⟨h154, hf⟩ := grd hf
            refine g_iald X 4 (n := 8) dX4_spread_154 (sgN (by decide)) rfl rfl h154 ?_
            refine g_iload X 0 dX4_spread_155 rfl ?_
            refine g_iadd X dX4_spread_157 ?_
            obtain ⟨h158, hf⟩ := grd hf
            refine g_iast X 4 (n := 8) dX4_spread_158 (sgN (by decide)) rfl rfl h158 ?_
            refine g_iconst X (v := 1) dX4_spread_159 (by decide) ?_
            refine g_istore X (lv' := [(5, .int (1 : Int32)), (9, .int (m0.1 2 ((v7 * (8 : Int32)) + v8).toNatClampNeg)), (0, .ref (ad 1)), (2, .int v2), (3, .ref (ad 4)), (4, .int v4), (6, .int v6), (7, .int v7), (8, .int v8)]) dX4_spread_160 (by decide) rfl ?_
            refine g_pick [2, 3, 4, 5, 0, 6, 7, 8] (lv' := [(0, .ref (ad 1)), (2, .int v2), (3, .ref (ad 4)), (4, .int v4), (5, .int (1 : Int32)), (6, .int v6), (7, .int v7), (8, .int v8)]) rfl ?_
            exact w_X4_spreadS_162 X hret hk39 hk57 ih v2 v4 (1 : Int32) v6 v7 v8 (pI m0 4 (v4 + v8).toNatClampNeg ((m0.1 4 (v4 + v7).toNatClampNeg) + (m0.1 2 ((v7 * (8 : Int32)) + v8).toNatClampNeg))) hf
        · have hf := it c116 hf
          refine g_goto X (tgt := 162) dX4_spread_119 (by decide) ?_
          refine g_pick [1, 2, 3, 4, 5, 6, 7, 8] (lv' := [(0, .ref (ad 1)), (2, .int v2), (3, .ref (ad 4)), (4, .int v4), (5, .int v5), (6, .int v6), (7, .int v7), (8, .int v8)]) rfl ?_
          exact w_X4_spreadS_162 X hret hk39 hk57 ih v2 v4 v5 v6 v7 v8 m0 hf
set_option maxRecDepth 100000 in
set_option maxHeartbeats 4000000 in
theorem w_X4_spreadS_57 {Γ : Ga} {b : Nat} {ad : Nat → Nat} {nt : Nat} {z : Nat → Nat} {k39 : Int32 → Int32 → Int32 → Int32 → Mem → Option (Mem)} {m9 : Mem} (X : Cx Γ b cX4_spread 10 RX4 (none) rmX4_spreadS) (hret : ∀ (pc : Nat) (lv : List (Nat × Value)), decode cX4_spread pc = .ok (.return_, 1) → Go Γ b (sg ad nt z) 0 0 pc lv [] m9) (hk39 : ∀ (v2 : Int32) (v4 : Int32) (v5 : Int32) (v6 : Int32) (m0 : Mem), k39 v2 v4 v5 v6 m0 = some m9 → Go Γ b (sg ad nt z) 0 0 39 [(0, .ref (ad 1)), (2, .int v2), (3, .ref (ad 4)), (4, .int v4), (5, .int v5), (6, .int v6)] [] m0) : ∀ (n : Nat) (v2 : Int32) (v4 : Int32) (v5 : Int32) (v6 : Int32) (v7 : Int32) (m0 : Mem), X4_spreadS_57 k39 n v2 v4 v5 v6 v7 m0 = some m9 → Go Γ b (sg ad nt z) 0 0 57 [(0, .ref (ad 1)), (2, .int v2), (3, .ref (ad 4)), (4, .int v4), (5, .int v5), (6, .int v6), (7, .int v7)] [] m0 := by
  intro n
  induction n with
  | zero =>
    intro v2 v4 v5 v6 v7 m0 hf
    cases hf
  | succ n ih =>
    intro v2 v4 v5 v6 v7 m0 hf
    refine g_iload X 6 dX4_spread_57 rfl ?_
    refine g_bipush X (v := 8) dX4_spread_59 (by decide) ?_
    refine g_icmp_ge X (tgt := 174) dX4_spread_61 (by decide) (fun c61 => ?_) (fun c61 => ?_)
    · have hf := it c61 hf
      refine g_iinc X 5 (v := v6 + (1 : Int32)) (lv' := [(6, .int (v6 + (1 : Int32))), (0, .ref (ad 1)), (2, .int v2), (3, .ref (ad 4)), (4, .int v4), (5, .int v5), (7, .int v7)]) dX4_spread_174 rfl rfl (by decide) rfl ?_
      refine g_goto X (tgt := 39) dX4_spread_177 (by decide) ?_
      refine g_pick [1, 2, 3, 4, 5, 0] (lv' := [(0, .ref (ad 1)), (2, .int v2), (3, .ref (ad 4)), (4, .int v4), (5, .int v5), (6, .int (v6 + (1 : Int32)))]) rfl ?_
      exact hk39 v2 v4 v5 (v6 + (1 : Int32)) m0 hf
    · have hf := ie c61 hf
      refine g_aload_n X 2 dX4_spread_64 rfl rfl ?_
      refine g_iload X 3 dX4_spread_65 rfl ?_
      refine g_iload X 6 dX4_spread_67 rfl ?_
      refine g_iadd X dX4_spread_69 ?_
      obtain ⟨h70, hf⟩ := grd hf
      refine g_iald X 4 (n := 8) dX4_spread_70 (sgN (by decide)) rfl rfl h70 ?_
      refine g_sipush X (v := 999) dX4_spread_71 (by decide) ?_
      refine g_icmp_ne X (tgt := 80) dX4_spread_74 (by decide) (fun c74 => ?_) (fun c74 => ?_)
      · have hf := ie c74 hf
        refine g_iconst X (v := 0) dX4_spread_80 (by decide) ?_
        refine g_istore X (lv' := [(8, .int (0 : Int32)), (0, .ref (ad 1)), (2, .int v2), (3, .ref (ad 4)), (4, .int v4), (5, .int v5), (6, .int v6), (7, .int v7)]) dX4_spread_81 (by decide) rfl ?_
        refine g_pick [1, 2, 3, 4, 5, 6, 7, 0] (lv' := [(0, .ref (ad 1)), (2, .int v2), (3, .ref (ad 4)), (4, .int v4), (5, .int v5), (6, .int v6), (7, .int v7), (8, .int (0 : Int32))]) rfl ?_
        exact w_X4_spreadS_83 X hret hk39 ih 10000 v2 v4 v5 v6 v7 (0 : Int32) m0 hf
      · have hf := it c74 hf
        refine g_goto X (tgt := 168) dX4_spread_77 (by decide) ?_
        exact w_X4_spreadS_168 X hret hk39 ih v2 v4 v5 v6 v7 m0 hf
set_option maxRecDepth 100000 in
set_option maxHeartbeats 4000000 in
theorem w_X4_spreadS_39 {Γ : Ga} {b : Nat} {ad : Nat → Nat} {nt : Nat} {z : Nat → Nat} {m9 : Mem} (X : Cx Γ b cX4_spread 10 RX4 (none) rmX4_spreadS) (hret : ∀ (pc : Nat) (lv : List (Nat × Value)), decode cX4_spread pc = .ok (.return_, 1) → Go Γ b (sg ad nt z) 0 0 pc lv [] m9) : ∀ (n : Nat) (v2 : Int32) (v4 : Int32) (v5 : Int32) (v6 : Int32) (m0 : Mem), X4_spreadS_39 n v2 v4 v5 v6 m0 = some m9 → Go Γ b (sg ad nt z) 0 0 39 [(0, .ref (ad 1)), (2, .int v2), (3, .ref (ad 4)), (4, .int v4), (5, .int v5), (6, .int v6)] [] m0 := by
  intro n
  induction n with
  | zero =>
    intro v2 v4 v5 v6 m0 hf
    cases hf
  | succ n ih =>
    intro v2 v4 v5 v6 m0 hf
    refine g_iload X 5 dX4_spread_39 rfl ?_
    refine g_bipush X (v := 8) dX4_spread_41 (by decide) ?_
    refine g_icmp_ge X (tgt := 180) dX4_spread_43 (by decide) (fun c43 => ?_) (fun c43 => ?_)
    · have hf := it c43 hf
      obtain rfl := lf1 hf
      exact hret 180 _ dX4_spread_180
    · have hf := ie c43 hf
      refine g_iload X 4 dX4_spread_46 rfl ?_
      refine g_if_eq X (tgt := 180) dX4_spread_48 (by decide) (fun c48 => ?_) (fun c48 => ?_)
      · have hf := it c48 hf
        obtain rfl := lf1 hf
        exact hret 180 _ dX4_spread_180
      · have hf := ie c48 hf
        refine g_iconst X (v := 0) dX4_spread_51 (by decide) ?_
        refine g_istore X (lv' := [(5, .int (0 : Int32)), (0, .ref (ad 1)), (2, .int v2), (3, .ref (ad 4)), (4, .int v4), (6, .int v6)]) dX4_spread_52 (by decide) rfl ?_
        refine g_iconst X (v := 0) dX4_spread_54 (by decide) ?_
        refine g_istore X (lv' := [(7, .int (0 : Int32)), (5, .int (0 : Int32)), (0, .ref (ad 1)), (2, .int v2), (3, .ref (ad 4)), (4, .int v4), (6, .int v6)]) dX4_spread_55 (by decide) rfl ?_
        refine g_pick [2, 3, 4, 5, 1, 6, 0] (lv' := [(0, .ref (ad 1)), (2, .int v2), (3, .ref (ad 4)), (4, .int v4), (5, .int (0 : Int32)), (6, .int v6), (7, .int (0 : Int32))]) rfl ?_
        exact w_X4_spreadS_57 X hret ih 10000 v2 v4 (0 : Int32) v6 (0 : Int32) m0 hf
set_option maxRecDepth 100000 in
set_option maxHeartbeats 4000000 in
theorem w_X4_spreadS_3 {Γ : Ga} {b : Nat} {ad : Nat → Nat} {nt : Nat} {z : Nat → Nat} {m9 : Mem} (X : Cx Γ b cX4_spread 10 RX4 (none) rmX4_spreadS) (hret : ∀ (pc : Nat) (lv : List (Nat × Value)), decode cX4_spread pc = .ok (.return_, 1) → Go Γ b (sg ad nt z) 0 0 pc lv [] m9) : ∀ (n : Nat) (v1 : Int32) (v2 : Int32) (v4 : Int32) (v5 : Int32) (m0 : Mem), X4_spreadS_3 n v1 v2 v4 v5 m0 = some m9 → Go Γ b (sg ad nt z) 0 0 3 [(0, .ref (ad 1)), (1, .int v1), (2, .int v2), (3, .ref (ad 4)), (4, .int v4), (5, .int v5)] [] m0 := by
  intro n
  induction n with
  | zero =>
    intro v1 v2 v4 v5 m0 hf
    cases hf
  | succ n ih =>
    intro v1 v2 v4 v5 m0 hf
    refine g_iload X 5 dX4_spread_3 rfl ?_
    refine g_bipush X (v := 8) dX4_spread_5 (by decide) ?_
    refine g_icmp_ge X (tgt := 26) dX4_spread_7 (by decide) (fun c7 => ?_) (fun c7 => ?_)
    · have hf := it c7 hf
      refine g_aload_n X 3 dX4_spread_26 rfl rfl ?_
      refine g_iload X 4 dX4_spread_27 rfl ?_
      refine g_iload_n X 1 dX4_spread_29 rfl rfl ?_
      refine g_iadd X dX4_spread_30 ?_
      refine g_iconst X (v := 0) dX4_spread_31 (by decide) ?_
      obtain ⟨h32, hf⟩ := grd hf
      refine g_iast X 4 (n := 8) dX4_spread_32 (sgN (by decide)) rfl rfl h32 ?_
      refine g_iconst X (v := 1) dX4_spread_33 (by decide) ?_
      refine g_istore X (lv' := [(5, .int (1 : Int32)), (0, .ref (ad 1)), (1, .int v1), (2, .int v2), (3, .ref (ad 4)), (4, .int v4)]) dX4_spread_34 (by decide) rfl ?_
      refine g_iconst X (v := 0) dX4_spread_36 (by decide) ?_
      refine g_istore X (lv' := [(6, .int (0 : Int32)), (5, .int (1 : Int32)), (0, .ref (ad 1)), (1, .int v1), (2, .int v2), (3, .ref (ad 4)), (4, .int v4)]) dX4_spread_37 (by decide) rfl ?_
      refine g_pick [2, 4, 5, 6, 1, 0] (lv' := [(0, .ref (ad 1)), (2, .int v2), (3, .ref (ad 4)), (4, .int v4), (5, .int (1 : Int32)), (6, .int (0 : Int32))]) rfl ?_
      exact w_X4_spreadS_39 X hret 10000 v2 v4 (1 : Int32) (0 : Int32) (pI m0 4 (v4 + v1).toNatClampNeg (0 : Int32)) hf
    · have hf := ie c7 hf
      refine g_aload_n X 3 dX4_spread_10 rfl rfl ?_
      refine g_iload X 4 dX4_spread_11 rfl ?_
      refine g_iload X 5 dX4_spread_13 rfl ?_
      refine g_iadd X dX4_spread_15 ?_
      refine g_sipush X (v := 999) dX4_spread_16 (by decide) ?_
      obtain ⟨h19, hf⟩ := grd hf
      refine g_iast X 4 (n := 8) dX4_spread_19 (sgN (by decide)) rfl rfl h19 ?_
      refine g_iinc X 5 (v := v5 + (1 : Int32)) (lv' := [(5, .int (v5 + (1 : Int32))), (0, .ref (ad 1)), (1, .int v1), (2, .int v2), (3, .ref (ad 4)), (4, .int v4)]) dX4_spread_20 rfl rfl (by decide) rfl ?_
      refine g_goto X (tgt := 3) dX4_spread_23 (by decide) ?_
      refine g_pick [1, 2, 3, 4, 5, 0] (lv' := [(0, .ref (ad 1)), (1, .int v1), (2, .int v2), (3, .ref (ad 4)), (4, .int v4), (5, .int (v5 + (1 : Int32)))]) rfl ?_
      exact ih v1 v2 v4 (v5 + (1 : Int32)) (pI m0 4 (v4 + v5).toNatClampNeg (999 : Int32)) hf
set_option maxRecDepth 100000 in
set_option maxHeartbeats 4000000 in
theorem c_X4_spreadS {l : Launch} {G : GG} {b : Nat} {ad : Nat → Nat} {nt : Nat} {z : Nat → Nat} {p0 : Int32} {p1 : Int32} {p3 : Int32} {m0 : Mem} {m9 : Mem} (hf : X4_spreadS p0 p1 p3 m0 = some m9) : MtV l yX4_spread cX4_spread 10 (none) rmX4_spreadS G b (sg ad nt z) m0 [.ref (ad 1), .int p0, .int p1, .ref (ad 4), .int p3] (pEV (sg ad nt z) m9) := by
  refine mtV_of (by decide) (Nat.le_of_ble_eq_true rfl) rfl (fun Γ hG X hnm hr => ?_)
  have hret : ∀ (pc : Nat) (lv : List (Nat × Value)), decode cX4_spread pc = .ok (.return_, 1) → Go Γ b (sg ad nt z) 0 0 pc lv [] m9 := fun pc lv d => hr pc lv _ _ d ⟨rfl, rfl⟩
  show Go Γ b (sg ad nt z) 0 0 0 [(0, .ref (ad 1)), (1, .int p0), (2, .int p1), (3, .ref (ad 4)), (4, .int p3)] [] m0
  refine g_iconst X (v := 0) dX4_spread_0 (by decide) ?_
  refine g_istore X (lv' := [(5, .int (0 : Int32)), (0, .ref (ad 1)), (1, .int p0), (2, .int p1), (3, .ref (ad 4)), (4, .int p3)]) dX4_spread_1 (by decide) rfl ?_
  refine g_pick [1, 2, 3, 4, 5, 0] (lv' := [(0, .ref (ad 1)), (1, .int p0), (2, .int p1), (3, .ref (ad 4)), (4, .int p3), (5, .int (0 : Int32))]) rfl ?_
  exact w_X4_spreadS_3 X hret 10000 p0 p1 p3 (0 : Int32) m0 hf

theorem kV_X4_34 : wcV RX4 34 RX4 yX4_spread cX4_spread 10 (none) 4 := ⟨q_ml_X4_34, q_im_yX4_spread, q_se_yX4_spread, q_in_X4, q_co_yX4_spread, by decide +kernel⟩

def X4_farFrom_39 (v1 : Int32) (v2 : Int32) (m0 : Mem) : Option (Int32 × Mem) :=
  if inn ((v1 * (8 : Int32)) + v2) 64 then
  some (m0.1 3 ((v1 * (8 : Int32)) + v2).toNatClampNeg, m0)
  else none
def X4_farFrom (p0 : Int32) (p1 : Int32) (m0 : Mem) : Option (Int32 × Mem) :=
  if (((m0.1 1 3) >>> (p0 &&& 31)) &&& (1 : Int32)) = 0 then
    bv (X4_spreadF p0 (255 : Int32) (p0 * (8 : Int32)) m0) fun m24 =>
    X4_farFrom_39 p0 p1 (pI m24 1 3 ((m24.1 1 3) ||| ((1 : Int32) <<< (p0 &&& 31))))
  else
    X4_farFrom_39 p0 p1 m0
abbrev rmX4_farFrom : Room := { frames := 1, cells := 0, slots := 0, locals := 29 }
set_option maxRecDepth 100000 in
set_option maxHeartbeats 4000000 in
theorem w_X4_farFrom_39 {Γ : Ga} {b : Nat} {ad : Nat → Nat} {nt : Nat} {z : Nat → Nat} {r9 : Int32} {m9 : Mem} (X : Cx Γ b cX4_farFrom 3 RX4 (some .int) rmX4_farFrom) (hret : ∀ (pc : Nat) (lv : List (Nat × Value)), decode cX4_farFrom pc = .ok (.ireturn, 1) → narrow .int (.int r9) = .int r9 → Go Γ b (sg ad nt z) 0 0 pc lv [.int r9] m9) (v1 : Int32) (v2 : Int32) (m0 : Mem) (hf : X4_farFrom_39 v1 v2 m0 = some (r9, m9)) : Go Γ b (sg ad nt z) 0 0 39 [(0, .ref (ad 1)), (1, .int v1), (2, .int v2)] [] m0 := by
  refine g_aload_n X 0 dX4_farFrom_39 rfl rfl ?_
  refine g_getr X (x := ad 3) 1 3 1 dX4_farFrom_40 (sgN (by decide)) rfl (by decide) rfl iw_X4 (by decide) rfl q_fl_X4_15 rfl ?_
  refine g_iload_n X 1 dX4_farFrom_43 rfl rfl ?_
  refine g_bipush X (v := 8) dX4_farFrom_44 (by decide) ?_
  refine g_imul X dX4_farFrom_46 ?_
  refine g_iload_n X 2 dX4_farFrom_47 rfl rfl ?_
  refine g_iadd X dX4_farFrom_48 ?_
  obtain ⟨h49, hf⟩ := grd hf
  refine g_iald X 3 (n := 64) dX4_farFrom_49 (sgN (by decide)) rfl rfl h49 ?_
  obtain ⟨rfl, rfl⟩ := lf2 hf
  exact hret 50 _ dX4_farFrom_50 rfl
set_option maxRecDepth 100000 in
set_option maxHeartbeats 4000000 in
theorem c_X4_farFrom {l : Launch} {G : GG} {b : Nat} {ad : Nat → Nat} {nt : Nat} {z : Nat → Nat} {p0 : Int32} {p1 : Int32} {m0 : Mem} {r9 : Int32} {m9 : Mem} (hf : X4_farFrom p0 p1 m0 = some (r9, m9)) : MtI l yX4_farFrom cX4_farFrom 3 (some .int) rmX4_farFrom G b (sg ad nt z) m0 [.ref (ad 1), .int p0, .int p1] (pEI r9 (sg ad nt z) m9) := by
  refine mtI_of (by decide) (Nat.le_of_ble_eq_true rfl) .int rfl (fun Γ hG X hnm hr => ?_)
  have hret : ∀ (pc : Nat) (lv : List (Nat × Value)), decode cX4_farFrom pc = .ok (.ireturn, 1) → narrow .int (.int r9) = .int r9 → Go Γ b (sg ad nt z) 0 0 pc lv [.int r9] m9 := fun pc lv d hn => hr pc lv _ _ _ d ⟨rfl, rfl, rfl⟩ hn
  show Go Γ b (sg ad nt z) 0 0 0 [(0, .ref (ad 1)), (1, .int p0), (2, .int p1)] [] m0
  refine g_aload_n X 0 dX4_farFrom_0 rfl rfl ?_
  refine g_getI X 1 3 3 dX4_farFrom_1 (sgN (by decide)) rfl (by decide) rfl iw_X4 (by decide) rfl q_fl_X4_21 ?_
  refine g_iload_n X 1 dX4_farFrom_4 rfl rfl ?_
  refine g_ishr X dX4_farFrom_5 ?_
  refine g_iconst X (v := 1) dX4_farFrom_6 (by decide) ?_
  refine g_iand X dX4_farFrom_7 ?_
  refine g_if_ne X (tgt := 39) dX4_farFrom_8 (by decide) (fun c8 => ?_) (fun c8 => ?_)
  · have hf := ie c8 hf
    exact w_X4_farFrom_39 X hret p0 p1 m0 hf
  · have hf := it c8 hf
    refine g_aload_n X 0 dX4_farFrom_11 rfl rfl ?_
    refine g_iload_n X 1 dX4_farFrom_12 rfl rfl ?_
    refine g_sipush X (v := 255) dX4_farFrom_13 (by decide) ?_
    refine g_aload_n X 0 dX4_farFrom_16 rfl rfl ?_
    refine g_getr X (x := ad 3) 1 3 1 dX4_farFrom_17 (sgN (by decide)) rfl (by decide) rfl iw_X4 (by decide) rfl q_fl_X4_15 rfl ?_
    refine g_iload_n X 1 dX4_farFrom_20 rfl rfl ?_
    refine g_bipush X (v := 8) dX4_farFrom_21 (by decide) ?_
    refine g_imul X dX4_farFrom_23 ?_
    obtain ⟨m24, h24, hf⟩ := bv_i hf
    refine g_eVV X 1 3 [.int p0, .int (255 : Int32), .ref (ad 3), .int (p0 * (8 : Int32))] kV_X4_34 (c_X4_spreadF h24) dX4_farFrom_24 rfl rfl (sgN (by decide)) rfl (by decide) rfl rfl ⟨(Nat.le_of_ble_eq_true rfl), (Nat.le_of_ble_eq_true rfl)⟩ ⟨rfl, rfl⟩ ⟨(Nat.zero_le _), (Nat.zero_le _)⟩ (Nat.le_of_ble_eq_true rfl) ?_
    refine g_aload_n X 0 dX4_farFrom_27 rfl rfl ?_
    refine g_dup X dX4_farFrom_28 rfl ?_
    refine g_getI X 1 3 3 dX4_farFrom_29 (sgN (by decide)) rfl (by decide) rfl iw_X4 (by decide) rfl q_fl_X4_21 ?_
    refine g_iconst X (v := 1) dX4_farFrom_32 (by decide) ?_
    refine g_iload_n X 1 dX4_farFrom_33 rfl rfl ?_
    refine g_ishl X dX4_farFrom_34 ?_
    refine g_ior X dX4_farFrom_35 ?_
    refine g_putI X (tyf := tyX4) 1 3 3 dX4_farFrom_36 (sgN (by decide)) rfl (by decide) rfl iw_X4 (by decide) rfl q_fl_X4_21 tyX4_ok nmX4 rfl rfl rfl ?_
    exact w_X4_farFrom_39 X hret p0 p1 (pI m24 1 3 ((m24.1 1 3) ||| ((1 : Int32) <<< (p0 &&& 31)))) hf

def X7_joined (p0 : Int32) (p1 : Int32) (p2 : Int32) (m0 : Mem) : Option (Int32 × Mem) :=
  if p0 = (0 : Int32) then
    if p1 = 0 then
      if p2 = 0 then
        some ((0 : Int32), m0)
      else
        some ((1 : Int32), m0)
    else
      some ((1 : Int32), m0)
  else
    if p0 = (1 : Int32) then
      if p1 = 0 then
        some ((0 : Int32), m0)
      else
        if p2 = 0 then
          some ((0 : Int32), m0)
        else
          some ((1 : Int32), m0)
    else
      if p0 = (2 : Int32) then
        some (p1 * p2, m0)
      else
        if p0 = (3 : Int32) then
          if p2 ≤ p1 then
            some ((0 : Int32), m0)
          else
            some ((1 : Int32), m0)
        else
          if p0 = (4 : Int32) then
            if p1 = p2 then
              some ((1 : Int32), m0)
            else
              some ((0 : Int32), m0)
          else
            if p0 = (5 : Int32) then
              some (p1 + p2, m0)
            else
              if p0 = (6 : Int32) then
                some (p1 - p2, m0)
              else
                some (p1 * p2, m0)
abbrev rmX7_joined : Room := { frames := 0, cells := 0, slots := 0, locals := 0 }

set_option maxRecDepth 100000 in
set_option maxHeartbeats 4000000 in
theorem c_X7_joined {l : Launch} {G : GG} {b : Nat} {ad : Nat → Nat} {nt : Nat} {z : Nat → Nat} {p0 : Int32} {p1 : Int32} {p2 : Int32} {m0 : Mem} {r9 : Int32} {m9 : Mem} (hf : X7_joined p0 p1 p2 m0 = some (r9, m9)) : MtI l yX7_joined cX7_joined 3 (some .int) rmX7_joined G b (sg ad nt z) m0 [.int p0, .int p1, .int p2] (pEI r9 (sg ad nt z) m9) := by
  refine mtI_of (by decide) (Nat.le_of_ble_eq_true rfl) .int rfl (fun Γ hG X hnm hr => ?_)
  have hret : ∀ (pc : Nat) (lv : List (Nat × Value)), decode cX7_joined pc = .ok (.ireturn, 1) → narrow .int (.int r9) = .int r9 → Go Γ b (sg ad nt z) 0 0 pc lv [.int r9] m9 := fun pc lv d hn => hr pc lv _ _ _ d ⟨rfl, rfl, rfl⟩ hn
  show Go Γ b (sg ad nt z) 0 0 0 [(0, .int p0), (1, .int p1), (2, .int p2)] [] m0
  refine g_iload_n X 0 dX7_joined_0 rfl rfl ?_
  by_cases c1_0 : p0 = (0 : Int32)
  · have hf := it c1_0 hf
    refine g_tblIn X (tgt := 44) dX7_joined_1 (by rw [c1_0]; decide) (by rw [c1_0]; decide) (off := 43) (by rw [c1_0]; rfl) (by decide) ?_
    refine g_iload_n X 1 dX7_joined_44 rfl rfl ?_
    refine g_if_ne X (tgt := 52) dX7_joined_45 (by decide) (fun c45 => ?_) (fun c45 => ?_)
    · have hf := ie c45 hf
      refine g_iconst X (v := 1) dX7_joined_52 (by decide) ?_
      refine g_goto X (tgt := 57) dX7_joined_53 (by decide) ?_
      obtain ⟨rfl, rfl⟩ := lf2 hf
      exact hret 57 _ dX7_joined_57 rfl
    · have hf := it c45 hf
      refine g_iload_n X 2 dX7_joined_48 rfl rfl ?_
      refine g_if_eq X (tgt := 56) dX7_joined_49 (by decide) (fun c49 => ?_) (fun c49 => ?_)
      · have hf := it c49 hf
        refine g_iconst X (v := 0) dX7_joined_56 (by decide) ?_
        obtain ⟨rfl, rfl⟩ := lf2 hf
        exact hret 57 _ dX7_joined_57 rfl
      · have hf := ie c49 hf
        refine g_iconst X (v := 1) dX7_joined_52 (by decide) ?_
        refine g_goto X (tgt := 57) dX7_joined_53 (by decide) ?_
        obtain ⟨rfl, rfl⟩ := lf2 hf
        exact hret 57 _ dX7_joined_57 rfl
  · have hf := ie c1_0 hf
    by_cases c1_1 : p0 = (1 : Int32)
    · have hf := it c1_1 hf
      refine g_tblIn X (tgt := 58) dX7_joined_1 (by rw [c1_1]; decide) (by rw [c1_1]; decide) (off := 57) (by rw [c1_1]; rfl) (by decide) ?_
      refine g_iload_n X 1 dX7_joined_58 rfl rfl ?_
      refine g_if_eq X (tgt := 70) dX7_joined_59 (by decide) (fun c59 => ?_) (fun c59 => ?_)
      · have hf := it c59 hf
        refine g_iconst X (v := 0) dX7_joined_70 (by decide) ?_
        obtain ⟨rfl, rfl⟩ := lf2 hf
        exact hret 71 _ dX7_joined_71 rfl
      · have hf := ie c59 hf
        refine g_iload_n X 2 dX7_joined_62 rfl rfl ?_
        refine g_if_eq X (tgt := 70) dX7_joined_63 (by decide) (fun c63 => ?_) (fun c63 => ?_)
        · have hf := it c63 hf
          refine g_iconst X (v := 0) dX7_joined_70 (by decide) ?_
          obtain ⟨rfl, rfl⟩ := lf2 hf
          exact hret 71 _ dX7_joined_71 rfl
        · have hf := ie c63 hf
          refine g_iconst X (v := 1) dX7_joined_66 (by decide) ?_
          refine g_goto X (tgt := 71) dX7_joined_67 (by decide) ?_
          obtain ⟨rfl, rfl⟩ := lf2 hf
          exact hret 71 _ dX7_joined_71 rfl
    · have hf := ie c1_1 hf
      by_cases c1_2 : p0 = (2 : Int32)
      · have hf := it c1_2 hf
        refine g_tblIn X (tgt := 102) dX7_joined_1 (by rw [c1_2]; decide) (by rw [c1_2]; decide) (off := 101) (by rw [c1_2]; rfl) (by decide) ?_
        refine g_iload_n X 1 dX7_joined_102 rfl rfl ?_
        refine g_iload_n X 2 dX7_joined_103 rfl rfl ?_
        refine g_imul X dX7_joined_104 ?_
        obtain ⟨rfl, rfl⟩ := lf2 hf
        exact hret 105 _ dX7_joined_105 rfl
      · have hf := ie c1_2 hf
        by_cases c1_3 : p0 = (3 : Int32)
        · have hf := it c1_3 hf
          refine g_tblIn X (tgt := 72) dX7_joined_1 (by rw [c1_3]; decide) (by rw [c1_3]; decide) (off := 71) (by rw [c1_3]; rfl) (by decide) ?_
          refine g_iload_n X 1 dX7_joined_72 rfl rfl ?_
          refine g_iload_n X 2 dX7_joined_73 rfl rfl ?_
          refine g_icmp_ge X (tgt := 81) dX7_joined_74 (by decide) (fun c74 => ?_) (fun c74 => ?_)
          · have hf := it c74 hf
            refine g_iconst X (v := 0) dX7_joined_81 (by decide) ?_
            obtain ⟨rfl, rfl⟩ := lf2 hf
            exact hret 82 _ dX7_joined_82 rfl
          · have hf := ie c74 hf
            refine g_iconst X (v := 1) dX7_joined_77 (by decide) ?_
            refine g_goto X (tgt := 82) dX7_joined_78 (by decide) ?_
            obtain ⟨rfl, rfl⟩ := lf2 hf
            exact hret 82 _ dX7_joined_82 rfl
        · have hf := ie c1_3 hf
          by_cases c1_4 : p0 = (4 : Int32)
          · have hf := it c1_4 hf
            refine g_tblIn X (tgt := 83) dX7_joined_1 (by rw [c1_4]; decide) (by rw [c1_4]; decide) (off := 82) (by rw [c1_4]; rfl) (by decide) ?_
            refine g_iload_n X 1 dX7_joined_83 rfl rfl ?_
            refine g_iload_n X 2 dX7_joined_84 rfl rfl ?_
            refine g_icmp_ne X (tgt := 92) dX7_joined_85 (by decide) (fun c85 => ?_) (fun c85 => ?_)
            · have hf := ie c85 hf
              refine g_iconst X (v := 0) dX7_joined_92 (by decide) ?_
              obtain ⟨rfl, rfl⟩ := lf2 hf
              exact hret 93 _ dX7_joined_93 rfl
            · have hf := it c85 hf
              refine g_iconst X (v := 1) dX7_joined_88 (by decide) ?_
              refine g_goto X (tgt := 93) dX7_joined_89 (by decide) ?_
              obtain ⟨rfl, rfl⟩ := lf2 hf
              exact hret 93 _ dX7_joined_93 rfl
          · have hf := ie c1_4 hf
            by_cases c1_5 : p0 = (5 : Int32)
            · have hf := it c1_5 hf
              refine g_tblIn X (tgt := 94) dX7_joined_1 (by rw [c1_5]; decide) (by rw [c1_5]; decide) (off := 93) (by rw [c1_5]; rfl) (by decide) ?_
              refine g_iload_n X 1 dX7_joined_94 rfl rfl ?_
              refine g_iload_n X 2 dX7_joined_95 rfl rfl ?_
              refine g_iadd X dX7_joined_96 ?_
              obtain ⟨rfl, rfl⟩ := lf2 hf
              exact hret 97 _ dX7_joined_97 rfl
            · have hf := ie c1_5 hf
              by_cases c1_6 : p0 = (6 : Int32)
              · have hf := it c1_6 hf
                refine g_tblIn X (tgt := 98) dX7_joined_1 (by rw [c1_6]; decide) (by rw [c1_6]; decide) (off := 97) (by rw [c1_6]; rfl) (by decide) ?_
                refine g_iload_n X 1 dX7_joined_98 rfl rfl ?_
                refine g_iload_n X 2 dX7_joined_99 rfl rfl ?_
                refine g_isub X dX7_joined_100 ?_
                obtain ⟨rfl, rfl⟩ := lf2 hf
                exact hret 101 _ dX7_joined_101 rfl
              · have hf := ie c1_6 hf
                refine g_tblOut X (tgt := 102) dX7_joined_1 (by have g0 := lv_neT (a := 0) c1_0 rfl; have g1 := lv_neT (a := 1) c1_1 rfl; have g2 := lv_neT (a := 2) c1_2 rfl; have g3 := lv_neT (a := 3) c1_3 rfl; have g4 := lv_neT (a := 4) c1_4 rfl; have g5 := lv_neT (a := 5) c1_5 rfl; have g6 := lv_neT (a := 6) c1_6 rfl; omega) (by decide) ?_
                refine g_iload_n X 1 dX7_joined_102 rfl rfl ?_
                refine g_iload_n X 2 dX7_joined_103 rfl rfl ?_
                refine g_imul X dX7_joined_104 ?_
                obtain ⟨rfl, rfl⟩ := lf2 hf
                exact hret 105 _ dX7_joined_105 rfl

theorem kS_X7_23 : wcS RX7 23 yX7_joined cX7_joined 3 (some .int) 3 := ⟨q_ml_X7_23, q_st_yX7_joined, q_in_X7, q_co_yX7_joined, by decide +kernel⟩

def X7_value_183 (nt : Nat) (z : Nat → Nat) (t : Nat) (k21 : Int32 → Int32 → Int32 → Mem → Option (Int32 × Mem)) (v1 : Int32) (v4 : Int32) (v5 : Int32) (m0 : Mem) : Option (Int32 × Mem) :=
  k21 v1 v4 (v5 + (1 : Int32)) m0
def X7_value_147 (nt : Nat) (z : Nat → Nat) (t : Nat) (k21 : Int32 → Int32 → Int32 → Mem → Option (Int32 × Mem)) (v1 : Int32) (v4 : Int32) (v5 : Int32) (s0 : Int32) (s1 : Int32) (m0 : Mem) : Option (Int32 × Mem) :=
  if inn s1 40 then
  X7_value_183 nt z t k21 v1 v4 v5 (pI m0 37 s1.toNatClampNeg s0)
  else none
def X7_value_103 (nt : Nat) (z : Nat → Nat) (t : Nat) (k21 : Int32 → Int32 → Int32 → Mem → Option (Int32 × Mem)) (v1 : Int32) (v4 : Int32) (v5 : Int32) (v7 : Int32) (m0 : Mem) : Option (Int32 × Mem) :=
  if (1 : Int32) ≤ v4 then
    if inn (v4 - (1 : Int32)) 40 then
    if v7 = (8 : Int32) then
      X7_value_147 nt z t k21 v1 v4 v5 (-(m0.1 37 (v4 - (1 : Int32)).toNatClampNeg)) (v4 - (1 : Int32)) m0
    else
      if (m0.1 37 (v4 - (1 : Int32)).toNatClampNeg) = 0 then
        X7_value_147 nt z t k21 v1 v4 v5 (1 : Int32) (v4 - (1 : Int32)) m0
      else
        X7_value_147 nt z t k21 v1 v4 v5 (0 : Int32) (v4 - (1 : Int32)) m0
    else none
  else
    some ((0 : Int32), m0)
def X7_value_76 (nt : Nat) (z : Nat → Nat) (t : Nat) (k21 : Int32 → Int32 → Int32 → Mem → Option (Int32 × Mem)) (v1 : Int32) (v4 : Int32) (v5 : Int32) (s0 : Int32) (s1 : Int32) (m0 : Mem) : Option (Int32 × Mem) :=
  if inn s1 40 then
  X7_value_183 nt z t k21 v1 (v4 + (1 : Int32)) v5 (pI m0 37 s1.toNatClampNeg s0)
  else none
def X7_value_21 (nt : Nat) (z : Nat → Nat) (t : Nat) : Nat → Int32 → Int32 → Int32 → Mem → Option (Int32 × Mem)
  | 0, _, _, _, _ => none
  | n + 1, v1, v4, v5, m0 =>
    if inn v1 (ln z (t + 2)) then
    if (m0.1 (t + 2) v1.toNatClampNeg) ≤ v5 then
      if (1 : Int32) ≤ v4 then
        if inn (0 : Int32) 40 then
        some (m0.1 37 (0 : Int32).toNatClampNeg, m0)
        else none
      else
        some ((0 : Int32), m0)
    else
      if inn v5 (ln z (t + 1)) then
      if (m0.1 (t + 1) v5.toNatClampNeg) ≤ (-7 : Int32) then
        if ((-7 : Int32) - (m0.1 (t + 1) v5.toNatClampNeg)) = (2 : Int32) then
          X7_value_103 nt z t (X7_value_21 nt z t n) v1 v4 v5 ((-7 : Int32) - (m0.1 (t + 1) v5.toNatClampNeg)) m0
        else
          if ((-7 : Int32) - (m0.1 (t + 1) v5.toNatClampNeg)) = (8 : Int32) then
            X7_value_103 nt z t (X7_value_21 nt z t n) v1 v4 v5 ((-7 : Int32) - (m0.1 (t + 1) v5.toNatClampNeg)) m0
          else
            if (2 : Int32) ≤ v4 then
              if inn ((v4 + (-1 : Int32)) - (1 : Int32)) 40 then
              if inn (v4 + (-1 : Int32)) 40 then
              bi (X7_joined ((-7 : Int32) - (m0.1 (t + 1) v5.toNatClampNeg)) (m0.1 37 ((v4 + (-1 : Int32)) - (1 : Int32)).toNatClampNeg) (m0.1 37 (v4 + (-1 : Int32)).toNatClampNeg) m0) fun r179 m179 =>
              if inn ((v4 + (-1 : Int32)) - (1 : Int32)) 40 then
              X7_value_183 nt z t (X7_value_21 nt z t n) v1 (v4 + (-1 : Int32)) v5 (pI m179 37 ((v4 + (-1 : Int32)) - (1 : Int32)).toNatClampNeg r179)
              else none
              else none
              else none
            else
              some ((0 : Int32), m0)
      else
        if v4 < (40 : Int32) then
          if (m0.1 (t + 1) v5.toNatClampNeg) < 0 then
            if inn ((-1 : Int32) - (m0.1 (t + 1) v5.toNatClampNeg)) 6 then
            X7_value_76 nt z t (X7_value_21 nt z t n) v1 v4 v5 (m0.1 36 ((-1 : Int32) - (m0.1 (t + 1) v5.toNatClampNeg)).toNatClampNeg) v4 m0
            else none
          else
            X7_value_76 nt z t (X7_value_21 nt z t n) v1 v4 v5 (m0.1 (t + 1) v5.toNatClampNeg) v4 m0
        else
          some ((0 : Int32), m0)
      else none
    else none
def X7_value_19 (nt : Nat) (z : Nat → Nat) (t : Nat) (v1 : Int32) (v4 : Int32) (s0 : Int32) (m0 : Mem) : Option (Int32 × Mem) :=
  X7_value_21 nt z t 10000 v1 v4 s0 m0
def X7_value (nt : Nat) (z : Nat → Nat) (t : Nat) (p0 : Int32) (m0 : Mem) : Option (Int32 × Mem) :=
  if p0 = 0 then
    X7_value_19 nt z t p0 (0 : Int32) (0 : Int32) m0
  else
    if inn (p0 - (1 : Int32)) (ln z (t + 2)) then
    X7_value_19 nt z t p0 (0 : Int32) (m0.1 (t + 2) (p0 - (1 : Int32)).toNatClampNeg) m0
    else none
abbrev rmX7_value : Room := { frames := 1, cells := 0, slots := 0, locals := 22 }
set_option maxRecDepth 100000 in
set_option maxHeartbeats 4000000 in
theorem w_X7_value_183 {Γ : Ga} {b : Nat} {ad : Nat → Nat} {nt : Nat} {z : Nat → Nat} {t : Nat} {k21 : Int32 → Int32 → Int32 → Mem → Option (Int32 × Mem)} {r9 : Int32} {m9 : Mem} (ht9 : isT nt t) (X : Cx Γ b cX7_value 9 RX7 (some .int) rmX7_value) (hret : ∀ (pc : Nat) (lv : List (Nat × Value)), decode cX7_value pc = .ok (.ireturn, 1) → narrow .int (.int r9) = .int r9 → Go Γ b (sg ad nt z) 0 0 pc lv [.int r9] m9) (hk21 : ∀ (v1 : Int32) (v4 : Int32) (v5 : Int32) (m0 : Mem), k21 v1 v4 v5 m0 = some (r9, m9) → Go Γ b (sg ad nt z) 0 0 21 [(0, .ref (ad t)), (1, .int v1), (2, .ref (ad 36)), (3, .ref (ad 37)), (4, .int v4), (5, .int v5)] [] m0) (v1 : Int32) (v4 : Int32) (v5 : Int32) (m0 : Mem) (hf : X7_value_183 nt z t k21 v1 v4 v5 m0 = some (r9, m9)) : Go Γ b (sg ad nt z) 0 0 183 [(0, .ref (ad t)), (1, .int v1), (2, .ref (ad 36)), (3, .ref (ad 37)), (4, .int v4), (5, .int v5)] [] m0 := by
  refine g_iinc X 5 (v := v5 + (1 : Int32)) (lv' := [(5, .int (v5 + (1 : Int32))), (0, .ref (ad t)), (1, .int v1), (2, .ref (ad 36)), (3, .ref (ad 37)), (4, .int v4)]) dX7_value_183 rfl rfl (by decide) rfl ?_
  refine g_goto X (tgt := 21) dX7_value_186 (by decide) ?_
  refine g_pick [1, 2, 3, 4, 5, 0] (lv' := [(0, .ref (ad t)), (1, .int v1), (2, .ref (ad 36)), (3, .ref (ad 37)), (4, .int v4), (5, .int (v5 + (1 : Int32)))]) rfl ?_
  exact hk21 v1 v4 (v5 + (1 : Int32)) m0 hf
set_option maxRecDepth 100000 in
set_option maxHeartbeats 4000000 in
theorem w_X7_value_147 {Γ : Ga} {b : Nat} {ad : Nat → Nat} {nt : Nat} {z : Nat → Nat} {t : Nat} {k21 : Int32 → Int32 → Int32 → Mem → Option (Int32 × Mem)} {r9 : Int32} {m9 : Mem} (ht9 : isT nt t) (X : Cx Γ b cX7_value 9 RX7 (some .int) rmX7_value) (hret : ∀ (pc : Nat) (lv : List (Nat × Value)), decode cX7_value pc = .ok (.ireturn, 1) → narrow .int (.int r9) = .int r9 → Go Γ b (sg ad nt z) 0 0 pc lv [.int r9] m9) (hk21 : ∀ (v1 : Int32) (v4 : Int32) (v5 : Int32) (m0 : Mem), k21 v1 v4 v5 m0 = some (r9, m9) → Go Γ b (sg ad nt z) 0 0 21 [(0, .ref (ad t)), (1, .int v1), (2, .ref (ad 36)), (3, .ref (ad 37)), (4, .int v4), (5, .int v5)] [] m0) (v1 : Int32) (v4 : Int32) (v5 : Int32) (s0 : Int32) (s1 : Int32) (m0 : Mem) (hf : X7_value_147 nt z t k21 v1 v4 v5 s0 s1 m0 = some (r9, m9)) : Go Γ b (sg ad nt z) 0 0 147 [(0, .ref (ad t)), (1, .int v1), (2, .ref (ad 36)), (3, .ref (ad 37)), (4, .int v4), (5, .int v5)] [.int s0, .int s1, .ref (ad 37)] m0 := by
  obtain ⟨h147, hf⟩ := grd hf
  refine g_iast X 37 (n := 40) dX7_value_147 (sgN (by decide)) rfl rfl h147 ?_
  refine g_goto X (tgt := 183) dX7_value_148 (by decide) ?_
  exact w_X7_value_183 ht9 X hret hk21 v1 v4 v5 (pI m0 37 s1.toNatClampNeg s0) hf
set_option maxRecDepth 100000 in
set_option maxHeartbeats 4000000 in
theorem w_X7_value_103 {Γ : Ga} {b : Nat} {ad : Nat → Nat} {nt : Nat} {z : Nat → Nat} {t : Nat} {k21 : Int32 → Int32 → Int32 → Mem → Option (Int32 × Mem)} {r9 : Int32} {m9 : Mem} (ht9 : isT nt t) (X : Cx Γ b cX7_value 9 RX7 (some .int) rmX7_value) (hret : ∀ (pc : Nat) (lv : List (Nat × Value)), decode cX7_value pc = .ok (.ireturn, 1) → narrow .int (.int r9) = .int r9 → Go Γ b (sg ad nt z) 0 0 pc lv [.int r9] m9) (hk21 : ∀ (v1 : Int32) (v4 : Int32) (v5 : Int32) (m0 : Mem), k21 v1 v4 v5 m0 = some (r9, m9) → Go Γ b (sg ad nt z) 0 0 21 [(0, .ref (ad t)), (1, .int v1), (2, .ref (ad 36)), (3, .ref (ad 37)), (4, .int v4), (5, .int v5)] [] m0) (v1 : Int32) (v4 : Int32) (v5 : Int32) (v7 : Int32) (m0 : Mem) (hf : X7_value_103 nt z t k21 v1 v4 v5 v7 m0 = some (r9, m9)) : Go Γ b (sg ad nt z) 0 0 103 [(0, .ref (ad t)), (1, .int v1), (2, .ref (ad 36)), (3, .ref (ad 37)), (4, .int v4), (5, .int v5), (7, .int v7)] [] m0 := by
  refine g_iload X 4 dX7_value_103 rfl ?_
  refine g_iconst X (v := 1) dX7_value_105 (by decide) ?_
  refine g_icmp_ge X (tgt := 111) dX7_value_106 (by decide) (fun c106 => ?_) (fun c106 => ?_)
  · have hf := it c106 hf
    refine g_aload_n X 3 dX7_value_111 rfl rfl ?_
    refine g_iload X 4 dX7_value_112 rfl ?_
    refine g_iconst X (v := 1) dX7_value_114 (by decide) ?_
    refine g_isub X dX7_value_115 ?_
    obtain ⟨h116, hf⟩ := grd hf
    refine g_iald X 37 (n := 40) dX7_value_116 (sgN (by decide)) rfl rfl h116 ?_
    refine g_istore X (lv' := [(8, .int (m0.1 37 (v4 - (1 : Int32)).toNatClampNeg)), (0, .ref (ad t)), (1, .int v1), (2, .ref (ad 36)), (3, .ref (ad 37)), (4, .int v4), (5, .int v5), (7, .int v7)]) dX7_value_117 (by decide) rfl ?_
    refine g_aload_n X 4 dX7_value_119 rfl rfl ?_
    refine g_iload X 5 dX7_value_120 rfl ?_
    refine g_iconst X (v := 1) dX7_value_122 (by decide) ?_
    refine g_isub X dX7_value_123 ?_
    refine g_iload X 7 dX7_value_124 rfl ?_
    refine g_bipush X (v := 8) dX7_value_126 (by decide) ?_
    refine g_icmp_ne X (tgt := 137) dX7_value_128 (by decide) (fun c128 => ?_) (fun c128 => ?_)
    · have hf := ie c128 hf
      refine g_iload X 0 dX7_value_137 rfl ?_
      refine g_if_ne X (tgt := 146) dX7_value_139 (by decide) (fun c139 => ?_) (fun c139 => ?_)
      · have hf := ie c139 hf
        refine g_iconst X (v := 0) dX7_value_146 (by decide) ?_
        refine g_pick [1, 2, 3, 4, 5, 6] (lv' := [(0, .ref (ad t)), (1, .int v1), (2, .ref (ad 36)), (3, .ref (ad 37)), (4, .int v4), (5, .int v5)]) rfl ?_
        exact w_X7_value_147 ht9 X hret hk21 v1 v4 v5 (0 : Int32) (v4 - (1 : Int32)) m0 hf
      · have hf := it c139 hf
        refine g_iconst X (v := 1) dX7_value_142 (by decide) ?_
        refine g_goto X (tgt := 147) dX7_value_143 (by decide) ?_
        refine g_pick [1, 2, 3, 4, 5, 6] (lv' := [(0, .ref (ad t)), (1, .int v1), (2, .ref (ad 36)), (3, .ref (ad 37)), (4, .int v4), (5, .int v5)]) rfl ?_
        exact w_X7_value_147 ht9 X hret hk21 v1 v4 v5 (1 : Int32) (v4 - (1 : Int32)) m0 hf
    · have hf := it c128 hf
      refine g_iload X 0 dX7_value_131 rfl ?_
      refine g_ineg X dX7_value_133 ?_
      refine g_goto X (tgt := 147) dX7_value_134 (by decide) ?_
      refine g_pick [1, 2, 3, 4, 5, 6] (lv' := [(0, .ref (ad t)), (1, .int v1), (2, .ref (ad 36)), (3, .ref (ad 37)), (4, .int v4), (5, .int v5)]) rfl ?_
      exact w_X7_value_147 ht9 X hret hk21 v1 v4 v5 (-(m0.1 37 (v4 - (1 : Int32)).toNatClampNeg)) (v4 - (1 : Int32)) m0 hf
  · have hf := ie c106 hf
    refine g_iconst X (v := 0) dX7_value_109 (by decide) ?_
    obtain ⟨rfl, rfl⟩ := lf2 hf
    exact hret 110 _ dX7_value_110 rfl
set_option maxRecDepth 100000 in
set_option maxHeartbeats 4000000 in
theorem w_X7_value_76 {Γ : Ga} {b : Nat} {ad : Nat → Nat} {nt : Nat} {z : Nat → Nat} {t : Nat} {k21 : Int32 → Int32 → Int32 → Mem → Option (Int32 × Mem)} {r9 : Int32} {m9 : Mem} (ht9 : isT nt t) (X : Cx Γ b cX7_value 9 RX7 (some .int) rmX7_value) (hret : ∀ (pc : Nat) (lv : List (Nat × Value)), decode cX7_value pc = .ok (.ireturn, 1) → narrow .int (.int r9) = .int r9 → Go Γ b (sg ad nt z) 0 0 pc lv [.int r9] m9) (hk21 : ∀ (v1 : Int32) (v4 : Int32) (v5 : Int32) (m0 : Mem), k21 v1 v4 v5 m0 = some (r9, m9) → Go Γ b (sg ad nt z) 0 0 21 [(0, .ref (ad t)), (1, .int v1), (2, .ref (ad 36)), (3, .ref (ad 37)), (4, .int v4), (5, .int v5)] [] m0) (v1 : Int32) (v4 : Int32) (v5 : Int32) (s0 : Int32) (s1 : Int32) (m0 : Mem) (hf : X7_value_76 nt z t k21 v1 v4 v5 s0 s1 m0 = some (r9, m9)) : Go Γ b (sg ad nt z) 0 0 76 [(0, .ref (ad t)), (1, .int v1), (2, .ref (ad 36)), (3, .ref (ad 37)), (4, .int v4), (5, .int v5)] [.int s0, .int s1, .ref (ad 37)] m0 := by
  obtain ⟨h76, hf⟩ := grd hf
  refine g_iast X 37 (n := 40) dX7_value_76 (sgN (by decide)) rfl rfl h76 ?_
  refine g_iinc X 4 (v := v4 + (1 : Int32)) (lv' := [(4, .int (v4 + (1 : Int32))), (0, .ref (ad t)), (1, .int v1), (2, .ref (ad 36)), (3, .ref (ad 37)), (5, .int v5)]) dX7_value_77 rfl rfl (by decide) rfl ?_
  refine g_goto X (tgt := 183) dX7_value_80 (by decide) ?_
  refine g_pick [1, 2, 3, 4, 0, 5] (lv' := [(0, .ref (ad t)), (1, .int v1), (2, .ref (ad 36)), (3, .ref (ad 37)), (4, .int (v4 + (1 : Int32))), (5, .int v5)]) rfl ?_
  exact w_X7_value_183 ht9 X hret hk21 v1 (v4 + (1 : Int32)) v5 (pI m0 37 s1.toNatClampNeg s0) hf
set_option maxRecDepth 100000 in
set_option maxHeartbeats 4000000 in
theorem w_X7_value_21 {Γ : Ga} {b : Nat} {ad : Nat → Nat} {nt : Nat} {z : Nat → Nat} {t : Nat} {r9 : Int32} {m9 : Mem} (ht9 : isT nt t) (X : Cx Γ b cX7_value 9 RX7 (some .int) rmX7_value) (hret : ∀ (pc : Nat) (lv : List (Nat × Value)), decode cX7_value pc = .ok (.ireturn, 1) → narrow .int (.int r9) = .int r9 → Go Γ b (sg ad nt z) 0 0 pc lv [.int r9] m9) : ∀ (n : Nat) (v1 : Int32) (v4 : Int32) (v5 : Int32) (m0 : Mem), X7_value_21 nt z t n v1 v4 v5 m0 = some (r9, m9) → Go Γ b (sg ad nt z) 0 0 21 [(0, .ref (ad t)), (1, .int v1), (2, .ref (ad 36)), (3, .ref (ad 37)), (4, .int v4), (5, .int v5)] [] m0 := by
  intro n
  induction n with
  | zero =>
    intro v1 v4 v5 m0 hf
    cases hf
  | succ n ih =>
    intro v1 v4 v5 m0 hf
    refine g_iload X 5 dX7_value_21 rfl ?_
    refine g_aload_n X 0 dX7_value_23 rfl rfl ?_
    refine g_getr X (x := ad (t + 2)) t 6 1 dX7_value_24 (T_lt0 ht9) (T_kd0 ht9) (by decide) rfl iw_X7 (by decide) rfl q_fl_X7_9 (T_r1 ht9) ?_
    refine g_iload_n X 1 dX7_value_27 rfl rfl ?_
    obtain ⟨h28, hf⟩ := grd hf
    refine g_iald X (t + 2) (n := ln z (t + 2)) dX7_value_28 (T_lt2 ht9) (T_kd2 ht9) rfl h28 ?_
    refine g_icmp_ge X (tgt := 189) dX7_value_29 (by decide) (fun c29 => ?_) (fun c29 => ?_)
    · have hf := it c29 hf
      refine g_iload X 4 dX7_value_189 rfl ?_
      refine g_iconst X (v := 1) dX7_value_191 (by decide) ?_
      refine g_icmp_ge X (tgt := 199) dX7_value_192 (by decide) (fun c192 => ?_) (fun c192 => ?_)
      · have hf := it c192 hf
        refine g_aload_n X 3 dX7_value_199 rfl rfl ?_
        refine g_iconst X (v := 0) dX7_value_200 (by decide) ?_
        obtain ⟨h201, hf⟩ := grd hf
        refine g_iald X 37 (n := 40) dX7_value_201 (sgN (by decide)) rfl rfl h201 ?_
        obtain ⟨rfl, rfl⟩ := lf2 hf
        exact hret 202 _ dX7_value_202 rfl
      · have hf := ie c192 hf
        refine g_iconst X (v := 0) dX7_value_195 (by decide) ?_
        refine g_goto X (tgt := 202) dX7_value_196 (by decide) ?_
        obtain ⟨rfl, rfl⟩ := lf2 hf
        exact hret 202 _ dX7_value_202 rfl
    · have hf := ie c29 hf
      refine g_aload_n X 0 dX7_value_32 rfl rfl ?_
      refine g_getr X (x := ad (t + 1)) t 6 0 dX7_value_33 (T_lt0 ht9) (T_kd0 ht9) (by decide) rfl iw_X7 (by decide) rfl q_fl_X7_13 (T_r0 ht9) ?_
      refine g_iload X 5 dX7_value_36 rfl ?_
      obtain ⟨h38, hf⟩ := grd hf
      refine g_iald X (t + 1) (n := ln z (t + 1)) dX7_value_38 (T_lt1 ht9) (T_kd1 ht9) rfl h38 ?_
      refine g_istore X (lv' := [(6, .int (m0.1 (t + 1) v5.toNatClampNeg)), (0, .ref (ad t)), (1, .int v1), (2, .ref (ad 36)), (3, .ref (ad 37)), (4, .int v4), (5, .int v5)]) dX7_value_39 (by decide) rfl ?_
      refine g_iload X 0 dX7_value_41 rfl ?_
      refine g_bipush X (v := -7) dX7_value_43 (by decide) ?_
      refine g_icmp_le X (tgt := 83) dX7_value_45 (by decide) (fun c45 => ?_) (fun c45 => ?_)
      · have hf := it c45 hf
        refine g_bipush X (v := -7) dX7_value_83 (by decide) ?_
        refine g_iload X 0 dX7_value_85 rfl ?_
        refine g_isub X dX7_value_87 ?_
        refine g_istore X (lv' := [(7, .int ((-7 : Int32) - (m0.1 (t + 1) v5.toNatClampNeg))), (6, .int (m0.1 (t + 1) v5.toNatClampNeg)), (0, .ref (ad t)), (1, .int v1), (2, .ref (ad 36)), (3, .ref (ad 37)), (4, .int v4), (5, .int v5)]) dX7_value_88 (by decide) rfl ?_
        refine g_iload X 0 dX7_value_90 rfl ?_
        refine g_iconst X (v := 2) dX7_value_92 (by decide) ?_
        refine g_icmp_eq X (tgt := 103) dX7_value_93 (by decide) (fun c93 => ?_) (fun c93 => ?_)
        · have hf := it c93 hf
          refine g_pick [2, 3, 4, 5, 6, 7, 0] (lv' := [(0, .ref (ad t)), (1, .int v1), (2, .ref (ad 36)), (3, .ref (ad 37)), (4, .int v4), (5, .int v5), (7, .int ((-7 : Int32) - (m0.1 (t + 1) v5.toNatClampNeg)))]) rfl ?_
          exact w_X7_value_103 ht9 X hret ih v1 v4 v5 ((-7 : Int32) - (m0.1 (t + 1) v5.toNatClampNeg)) m0 hf
        · have hf := ie c93 hf
          refine g_iload X 0 dX7_value_96 rfl ?_
          refine g_bipush X (v := 8) dX7_value_98 (by decide) ?_
          refine g_icmp_ne X (tgt := 151) dX7_value_100 (by decide) (fun c100 => ?_) (fun c100 => ?_)
          · have hf := ie c100 hf
            refine g_iload X 6 dX7_value_151 rfl ?_
            refine g_iconst X (v := 2) dX7_value_153 (by decide) ?_
            refine g_icmp_ge X (tgt := 159) dX7_value_154 (by decide) (fun c154 => ?_) (fun c154 => ?_)
            · have hf := it c154 hf
              refine g_iinc X 6 (v := v4 + (-1 : Int32)) (lv' := [(4, .int (v4 + (-1 : Int32))), (7, .int ((-7 : Int32) - (m0.1 (t + 1) v5.toNatClampNeg))), (6, .int (m0.1 (t + 1) v5.toNatClampNeg)), (0, .ref (ad t)), (1, .int v1), (2, .ref (ad 36)), (3, .ref (ad 37)), (5, .int v5)]) dX7_value_159 rfl rfl (by decide) rfl ?_
              refine g_aload_n X 6 dX7_value_162 rfl rfl ?_
              refine g_iload X 0 dX7_value_163 rfl ?_
              refine g_iconst X (v := 1) dX7_value_165 (by decide) ?_
              refine g_isub X dX7_value_166 ?_
              refine g_iload X 1 dX7_value_167 rfl ?_
              refine g_aload_n X 6 dX7_value_169 rfl rfl ?_
              refine g_iload X 0 dX7_value_170 rfl ?_
              refine g_iconst X (v := 1) dX7_value_172 (by decide) ?_
              refine g_isub X dX7_value_173 ?_
              obtain ⟨h174, hf⟩ := grd hf
              refine g_iald X 37 (n := 40) dX7_value_174 (sgN (by decide)) rfl rfl h174 ?_
              refine g_aload_n X 6 dX7_value_175 rfl rfl ?_
              refine g_iload X 0 dX7_value_176 rfl ?_
              obtain ⟨h178, hf⟩ := grd hf
              refine g_iald X 37 (n := 40) dX7_value_178 (sgN (by decide)) rfl rfl h178 ?_
              obtain ⟨r179, m179, h179, hf⟩ := bi_i hf
              refine g_eSI X [.int ((-7 : Int32) - (m0.1 (t + 1) v5.toNatClampNeg)), .int (m0.1 37 ((v4 + (-1 : Int32)) - (1 : Int32)).toNatClampNeg), .int (m0.1 37 (v4 + (-1 : Int32)).toNatClampNeg)] kS_X7_23 (c_X7_joined h179) dX7_value_179 rfl rfl ⟨(Nat.le_of_ble_eq_true rfl), (Nat.le_of_ble_eq_true rfl)⟩ ⟨rfl, rfl⟩ ⟨(Nat.zero_le _), (Nat.zero_le _)⟩ (Nat.le_of_ble_eq_true rfl) ?_
              obtain ⟨h182, hf⟩ := grd hf
              refine g_iast X 37 (n := 40) dX7_value_182 (sgN (by decide)) rfl rfl h182 ?_
              refine g_pick [3, 4, 5, 6, 0, 7] (lv' := [(0, .ref (ad t)), (1, .int v1), (2, .ref (ad 36)), (3, .ref (ad 37)), (4, .int (v4 + (-1 : Int32))), (5, .int v5)]) rfl ?_
              exact w_X7_value_183 ht9 X hret ih v1 (v4 + (-1 : Int32)) v5 (pI m179 37 ((v4 + (-1 : Int32)) - (1 : Int32)).toNatClampNeg r179) hf
            · have hf := ie c154 hf
              refine g_iconst X (v := 0) dX7_value_157 (by decide) ?_
              obtain ⟨rfl, rfl⟩ := lf2 hf
              exact hret 158 _ dX7_value_158 rfl
          · have hf := it c100 hf
            refine g_pick [2, 3, 4, 5, 6, 7, 0] (lv' := [(0, .ref (ad t)), (1, .int v1), (2, .ref (ad 36)), (3, .ref (ad 37)), (4, .int v4), (5, .int v5), (7, .int ((-7 : Int32) - (m0.1 (t + 1) v5.toNatClampNeg)))]) rfl ?_
            exact w_X7_value_103 ht9 X hret ih v1 v4 v5 ((-7 : Int32) - (m0.1 (t + 1) v5.toNatClampNeg)) m0 hf
      · have hf := ie c45 hf
        refine g_iload X 5 dX7_value_48 rfl ?_
        refine g_bipush X (v := 40) dX7_value_50 (by decide) ?_
        refine g_icmp_lt X (tgt := 57) dX7_value_52 (by decide) (fun c52 => ?_) (fun c52 => ?_)
        · have hf := it c52 hf
          refine g_aload_n X 4 dX7_value_57 rfl rfl ?_
          refine g_iload X 5 dX7_value_58 rfl ?_
          refine g_iload X 0 dX7_value_60 rfl ?_
          refine g_if_lt X (tgt := 70) dX7_value_62 (by decide) (fun c62 => ?_) (fun c62 => ?_)
          · have hf := it c62 hf
            refine g_aload_n X 3 dX7_value_70 rfl rfl ?_
            refine g_iconst X (v := -1) dX7_value_71 (by decide) ?_
            refine g_iload X 0 dX7_value_72 rfl ?_
            refine g_isub X dX7_value_74 ?_
            obtain ⟨h75, hf⟩ := grd hf
            refine g_iald X 36 (n := 6) dX7_value_75 (sgN (by decide)) rfl rfl h75 ?_
            refine g_pick [1, 2, 3, 4, 5, 6] (lv' := [(0, .ref (ad t)), (1, .int v1), (2, .ref (ad 36)), (3, .ref (ad 37)), (4, .int v4), (5, .int v5)]) rfl ?_
            exact w_X7_value_76 ht9 X hret ih v1 v4 v5 (m0.1 36 ((-1 : Int32) - (m0.1 (t + 1) v5.toNatClampNeg)).toNatClampNeg) v4 m0 hf
          · have hf := ie c62 hf
            refine g_iload X 0 dX7_value_65 rfl ?_
            refine g_goto X (tgt := 76) dX7_value_67 (by decide) ?_
            refine g_pick [1, 2, 3, 4, 5, 6] (lv' := [(0, .ref (ad t)), (1, .int v1), (2, .ref (ad 36)), (3, .ref (ad 37)), (4, .int v4), (5, .int v5)]) rfl ?_
            exact w_X7_value_76 ht9 X hret ih v1 v4 v5 (m0.1 (t + 1) v5.toNatClampNeg) v4 m0 hf
        · have hf := ie c52 hf
          refine g_iconst X (v := 0) dX7_value_55 (by decide) ?_
          obtain ⟨rfl, rfl⟩ := lf2 hf
          exact hret 56 _ dX7_value_56 rfl
set_option maxRecDepth 100000 in
set_option maxHeartbeats 4000000 in
theorem w_X7_value_19 {Γ : Ga} {b : Nat} {ad : Nat → Nat} {nt : Nat} {z : Nat → Nat} {t : Nat} {r9 : Int32} {m9 : Mem} (ht9 : isT nt t) (X : Cx Γ b cX7_value 9 RX7 (some .int) rmX7_value) (hret : ∀ (pc : Nat) (lv : List (Nat × Value)), decode cX7_value pc = .ok (.ireturn, 1) → narrow .int (.int r9) = .int r9 → Go Γ b (sg ad nt z) 0 0 pc lv [.int r9] m9) (v1 : Int32) (v4 : Int32) (s0 : Int32) (m0 : Mem) (hf : X7_value_19 nt z t v1 v4 s0 m0 = some (r9, m9)) : Go Γ b (sg ad nt z) 0 0 19 [(0, .ref (ad t)), (1, .int v1), (2, .ref (ad 36)), (3, .ref (ad 37)), (4, .int v4)] [.int s0] m0 := by
  refine g_istore X (lv' := [(5, .int s0), (0, .ref (ad t)), (1, .int v1), (2, .ref (ad 36)), (3, .ref (ad 37)), (4, .int v4)]) dX7_value_19 (by decide) rfl ?_
  refine g_pick [1, 2, 3, 4, 5, 0] (lv' := [(0, .ref (ad t)), (1, .int v1), (2, .ref (ad 36)), (3, .ref (ad 37)), (4, .int v4), (5, .int s0)]) rfl ?_
  exact w_X7_value_21 ht9 X hret 10000 v1 v4 s0 m0 hf
set_option maxRecDepth 100000 in
set_option maxHeartbeats 4000000 in
theorem c_X7_value {l : Launch} {G : GG} {b : Nat} {ad : Nat → Nat} {nt : Nat} {z : Nat → Nat} {t : Nat} {p0 : Int32} {m0 : Mem} {r9 : Int32} {m9 : Mem} (ht9 : isT nt t) (hf : X7_value nt z t p0 m0 = some (r9, m9)) : MtI l yX7_value cX7_value 9 (some .int) rmX7_value G b (sg ad nt z) m0 [.ref (ad t), .int p0, .ref (ad 36), .ref (ad 37)] (pEI r9 (sg ad nt z) m9) := by
  refine mtI_of (by decide) (Nat.le_of_ble_eq_true rfl) .int rfl (fun Γ hG X hnm hr => ?_)
  have hret : ∀ (pc : Nat) (lv : List (Nat × Value)), decode cX7_value pc = .ok (.ireturn, 1) → narrow .int (.int r9) = .int r9 → Go Γ b (sg ad nt z) 0 0 pc lv [.int r9] m9 := fun pc lv d hn => hr pc lv _ _ _ d ⟨rfl, rfl, rfl⟩ hn
  show Go Γ b (sg ad nt z) 0 0 0 [(0, .ref (ad t)), (1, .int p0), (2, .ref (ad 36)), (3, .ref (ad 37))] [] m0
  refine g_iconst X (v := 0) dX7_value_0 (by decide) ?_
  refine g_istore X (lv' := [(4, .int (0 : Int32)), (0, .ref (ad t)), (1, .int p0), (2, .ref (ad 36)), (3, .ref (ad 37))]) dX7_value_1 (by decide) rfl ?_
  refine g_iload_n X 2 dX7_value_3 rfl rfl ?_
  refine g_if_ne X (tgt := 11) dX7_value_4 (by decide) (fun c4 => ?_) (fun c4 => ?_)
  · have hf := ie c4 hf
    refine g_aload_n X 1 dX7_value_11 rfl rfl ?_
    refine g_getr X (x := ad (t + 2)) t 6 1 dX7_value_12 (T_lt0 ht9) (T_kd0 ht9) (by decide) rfl iw_X7 (by decide) rfl q_fl_X7_9 (T_r1 ht9) ?_
    refine g_iload_n X 2 dX7_value_15 rfl rfl ?_
    refine g_iconst X (v := 1) dX7_value_16 (by decide) ?_
    refine g_isub X dX7_value_17 ?_
    obtain ⟨h18, hf⟩ := grd hf
    refine g_iald X (t + 2) (n := ln z (t + 2)) dX7_value_18 (T_lt2 ht9) (T_kd2 ht9) rfl h18 ?_
    refine g_pick [1, 2, 3, 4, 0] (lv' := [(0, .ref (ad t)), (1, .int p0), (2, .ref (ad 36)), (3, .ref (ad 37)), (4, .int (0 : Int32))]) rfl ?_
    exact w_X7_value_19 ht9 X hret p0 (0 : Int32) (m0.1 (t + 2) (p0 - (1 : Int32)).toNatClampNeg) m0 hf
  · have hf := it c4 hf
    refine g_iconst X (v := 0) dX7_value_7 (by decide) ?_
    refine g_goto X (tgt := 19) dX7_value_8 (by decide) ?_
    refine g_pick [1, 2, 3, 4, 0] (lv' := [(0, .ref (ad t)), (1, .int p0), (2, .ref (ad 36)), (3, .ref (ad 37)), (4, .int (0 : Int32))]) rfl ?_
    exact w_X7_value_19 ht9 X hret p0 (0 : Int32) (0 : Int32) m0 hf
