def X10_in (p0 : Int64) (p1 : Int64) (p2 : Int64) (m0 : Mem) : Option (Int32 × Mem) :=
  if (lg_cmp p0 p1) < 0 then
    some ((0 : Int32), m0)
  else
    if 0 < (lg_cmp p0 p2) then
      some ((0 : Int32), m0)
    else
      some ((1 : Int32), m0)
abbrev rmX10_in : Room := { frames := 0, cells := 0, slots := 0, locals := 0 }

set_option maxRecDepth 100000 in
set_option maxHeartbeats 4000000 in
theorem c_X10_in {l : Launch} {G : GG} {b : Nat} {ad : Nat → Nat} {nt : Nat} {z : Nat → Nat} {p0 : Int64} {p1 : Int64} {p2 : Int64} {m0 : Mem} {r9 : Int32} {m9 : Mem} (hf : X10_in p0 p1 p2 m0 = some (r9, m9)) : MtI l yX10_in cX10_in 6 (some .boolean) rmX10_in G b (sg ad nt z) m0 [.long p0, .long p1, .long p2] (pEI r9 (sg ad nt z) m9) := by
  refine mtI_of (by decide) (Nat.le_of_ble_eq_true rfl) .boolean rfl (fun Γ hG X hnm hr => ?_)
  have hret : ∀ (pc : Nat) (lv : List (Nat × Value)), decode cX10_in pc = .ok (.ireturn, 1) → narrow .boolean (.int r9) = .int r9 → Go Γ b (sg ad nt z) 0 0 pc lv [.int r9] m9 := fun pc lv d hn => hr pc lv _ _ _ d ⟨rfl, rfl, rfl⟩ hn
  show Go Γ b (sg ad nt z) 0 0 0 [(0, .long p0), (2, .long p1), (4, .long p2)] [] m0
  refine g_lload_n X 0 dX10_in_0 rfl rfl ?_
  refine g_lload_n X 1 dX10_in_1 rfl rfl ?_
  refine g_lcmp X dX10_in_2 ?_
  refine g_if_lt X (tgt := 17) dX10_in_3 (by decide) (fun c3 => ?_) (fun c3 => ?_)
  · have hf := it c3 hf
    refine g_iconst X (v := 0) dX10_in_17 (by decide) ?_
    obtain ⟨rfl, rfl⟩ := lf2 hf
    exact hret 18 _ dX10_in_18 rfl
  · have hf := ie c3 hf
    refine g_lload_n X 0 dX10_in_6 rfl rfl ?_
    refine g_lload X 2 dX10_in_7 rfl ?_
    refine g_lcmp X dX10_in_9 ?_
    refine g_if_gt X (tgt := 17) dX10_in_10 (by decide) (fun c10 => ?_) (fun c10 => ?_)
    · have hf := it c10 hf
      refine g_iconst X (v := 0) dX10_in_17 (by decide) ?_
      obtain ⟨rfl, rfl⟩ := lf2 hf
      exact hret 18 _ dX10_in_18 rfl
    · have hf := ie c10 hf
      refine g_iconst X (v := 1) dX10_in_13 (by decide) ?_
      refine g_goto X (tgt := 18) dX10_in_14 (by decide) ?_
      obtain ⟨rfl, rfl⟩ := lf2 hf
      exact hret 18 _ dX10_in_18 rfl

def X10_within (p0 : Int32) (p1 : Int32) (p2 : Int32) (m0 : Mem) : Option (Int32 × Mem) :=
  if p1 ≤ p0 then
    if p0 ≤ p2 then
      some (p0, m0)
    else
      some (p2, m0)
  else
    some (p1, m0)
abbrev rmX10_within : Room := { frames := 0, cells := 0, slots := 0, locals := 0 }

set_option maxRecDepth 100000 in
set_option maxHeartbeats 4000000 in
theorem c_X10_within {l : Launch} {G : GG} {b : Nat} {ad : Nat → Nat} {nt : Nat} {z : Nat → Nat} {p0 : Int32} {p1 : Int32} {p2 : Int32} {m0 : Mem} {r9 : Int32} {m9 : Mem} (hf : X10_within p0 p1 p2 m0 = some (r9, m9)) : MtI l yX10_within cX10_within 3 (some .int) rmX10_within G b (sg ad nt z) m0 [.int p0, .int p1, .int p2] (pEI r9 (sg ad nt z) m9) := by
  refine mtI_of (by decide) (Nat.le_of_ble_eq_true rfl) .int rfl (fun Γ hG X hnm hr => ?_)
  have hret : ∀ (pc : Nat) (lv : List (Nat × Value)), decode cX10_within pc = .ok (.ireturn, 1) → narrow .int (.int r9) = .int r9 → Go Γ b (sg ad nt z) 0 0 pc lv [.int r9] m9 := fun pc lv d hn => hr pc lv _ _ _ d ⟨rfl, rfl, rfl⟩ hn
  show Go Γ b (sg ad nt z) 0 0 0 [(0, .int p0), (1, .int p1), (2, .int p2)] [] m0
  refine g_iload_n X 0 dX10_within_0 rfl rfl ?_
  refine g_iload_n X 1 dX10_within_1 rfl rfl ?_
  refine g_icmp_ge X (tgt := 9) dX10_within_2 (by decide) (fun c2 => ?_) (fun c2 => ?_)
  · have hf := it c2 hf
    refine g_iload_n X 0 dX10_within_9 rfl rfl ?_
    refine g_iload_n X 2 dX10_within_10 rfl rfl ?_
    refine g_icmp_le X (tgt := 18) dX10_within_11 (by decide) (fun c11 => ?_) (fun c11 => ?_)
    · have hf := it c11 hf
      refine g_iload_n X 0 dX10_within_18 rfl rfl ?_
      obtain ⟨rfl, rfl⟩ := lf2 hf
      exact hret 19 _ dX10_within_19 rfl
    · have hf := ie c11 hf
      refine g_iload_n X 2 dX10_within_14 rfl rfl ?_
      refine g_goto X (tgt := 19) dX10_within_15 (by decide) ?_
      obtain ⟨rfl, rfl⟩ := lf2 hf
      exact hret 19 _ dX10_within_19 rfl
  · have hf := ie c2 hf
    refine g_iload_n X 1 dX10_within_5 rfl rfl ?_
    refine g_goto X (tgt := 19) dX10_within_6 (by decide) ?_
    obtain ⟨rfl, rfl⟩ := lf2 hf
    exact hret 19 _ dX10_within_19 rfl

def X10_spell (p0 : Int32) (p1 : Int32) (p2 : Int32) (p3 : Int32) (p4 : Int32) (p5 : Int32) (p6 : Int32) (p7 : Int32) (p8 : Int32) (m0 : Mem) : Option (Mem) :=
  if inn p0 960 then
  if inn (p0 + (1 : Int32)) 960 then
  if inn (p0 + (2 : Int32)) 960 then
  if inn (p0 + (3 : Int32)) 960 then
  if inn (p0 + (4 : Int32)) 960 then
  if inn (p0 + (5 : Int32)) 960 then
  if inn (p0 + (6 : Int32)) 960 then
  if inn (p0 + (7 : Int32)) 960 then
  some (pI (pI (pI (pI (pI (pI (pI (pI m0 64 p0.toNatClampNeg p1) 64 (p0 + (1 : Int32)).toNatClampNeg p2) 64 (p0 + (2 : Int32)).toNatClampNeg p3) 64 (p0 + (3 : Int32)).toNatClampNeg p4) 64 (p0 + (4 : Int32)).toNatClampNeg p5) 64 (p0 + (5 : Int32)).toNatClampNeg p6) 64 (p0 + (6 : Int32)).toNatClampNeg p7) 64 (p0 + (7 : Int32)).toNatClampNeg p8)
  else none
  else none
  else none
  else none
  else none
  else none
  else none
  else none
abbrev rmX10_spell : Room := { frames := 0, cells := 0, slots := 0, locals := 0 }

set_option maxRecDepth 100000 in
set_option maxHeartbeats 4000000 in
theorem c_X10_spell {l : Launch} {G : GG} {b : Nat} {ad : Nat → Nat} {nt : Nat} {z : Nat → Nat} {p0 : Int32} {p1 : Int32} {p2 : Int32} {p3 : Int32} {p4 : Int32} {p5 : Int32} {p6 : Int32} {p7 : Int32} {p8 : Int32} {m0 : Mem} {m9 : Mem} (hf : X10_spell p0 p1 p2 p3 p4 p5 p6 p7 p8 m0 = some m9) : MtV l yX10_spell cX10_spell 10 (none) rmX10_spell G b (sg ad nt z) m0 [.ref (ad 63), .int p0, .int p1, .int p2, .int p3, .int p4, .int p5, .int p6, .int p7, .int p8] (pEV (sg ad nt z) m9) := by
  refine mtV_of (by decide) (Nat.le_of_ble_eq_true rfl) rfl (fun Γ hG X hnm hr => ?_)
  have hret : ∀ (pc : Nat) (lv : List (Nat × Value)), decode cX10_spell pc = .ok (.return_, 1) → Go Γ b (sg ad nt z) 0 0 pc lv [] m9 := fun pc lv d => hr pc lv _ _ d ⟨rfl, rfl⟩
  show Go Γ b (sg ad nt z) 0 0 0 [(0, .ref (ad 63)), (1, .int p0), (2, .int p1), (3, .int p2), (4, .int p3), (5, .int p4), (6, .int p5), (7, .int p6), (8, .int p7), (9, .int p8)] [] m0
  refine g_aload_n X 0 dX10_spell_0 rfl rfl ?_
  refine g_getr X (x := ad 64) 63 9 1 dX10_spell_1 (sgN (by decide)) rfl (by decide) rfl iw_X10 (by decide) rfl q_fl_X10_13 rfl ?_
  refine g_iload_n X 1 dX10_spell_4 rfl rfl ?_
  refine g_iload_n X 2 dX10_spell_5 rfl rfl ?_
  obtain ⟨h6, hf⟩ := grd hf
  refine g_iast X 64 (n := 960) dX10_spell_6 (sgN (by decide)) rfl rfl h6 ?_
  refine g_aload_n X 0 dX10_spell_7 rfl rfl ?_
  refine g_getr X (x := ad 64) 63 9 1 dX10_spell_8 (sgN (by decide)) rfl (by decide) rfl iw_X10 (by decide) rfl q_fl_X10_13 rfl ?_
  refine g_iload_n X 1 dX10_spell_11 rfl rfl ?_
  refine g_iconst X (v := 1) dX10_spell_12 (by decide) ?_
  refine g_iadd X dX10_spell_13 ?_
  refine g_iload_n X 3 dX10_spell_14 rfl rfl ?_
  obtain ⟨h15, hf⟩ := grd hf
  refine g_iast X 64 (n := 960) dX10_spell_15 (sgN (by decide)) rfl rfl h15 ?_
  refine g_aload_n X 0 dX10_spell_16 rfl rfl ?_
  refine g_getr X (x := ad 64) 63 9 1 dX10_spell_17 (sgN (by decide)) rfl (by decide) rfl iw_X10 (by decide) rfl q_fl_X10_13 rfl ?_
  refine g_iload_n X 1 dX10_spell_20 rfl rfl ?_
  refine g_iconst X (v := 2) dX10_spell_21 (by decide) ?_
  refine g_iadd X dX10_spell_22 ?_
  refine g_iload X 4 dX10_spell_23 rfl ?_
  obtain ⟨h25, hf⟩ := grd hf
  refine g_iast X 64 (n := 960) dX10_spell_25 (sgN (by decide)) rfl rfl h25 ?_
  refine g_aload_n X 0 dX10_spell_26 rfl rfl ?_
  refine g_getr X (x := ad 64) 63 9 1 dX10_spell_27 (sgN (by decide)) rfl (by decide) rfl iw_X10 (by decide) rfl q_fl_X10_13 rfl ?_
  refine g_iload_n X 1 dX10_spell_30 rfl rfl ?_
  refine g_iconst X (v := 3) dX10_spell_31 (by decide) ?_
  refine g_iadd X dX10_spell_32 ?_
  refine g_iload X 5 dX10_spell_33 rfl ?_
  obtain ⟨h35, hf⟩ := grd hf
  refine g_iast X 64 (n := 960) dX10_spell_35 (sgN (by decide)) rfl rfl h35 ?_
  refine g_aload_n X 0 dX10_spell_36 rfl rfl ?_
  refine g_getr X (x := ad 64) 63 9 1 dX10_spell_37 (sgN (by decide)) rfl (by decide) rfl iw_X10 (by decide) rfl q_fl_X10_13 rfl ?_
  refine g_iload_n X 1 dX10_spell_40 rfl rfl ?_
  refine g_iconst X (v := 4) dX10_spell_41 (by decide) ?_
  refine g_iadd X dX10_spell_42 ?_
  refine g_iload X 6 dX10_spell_43 rfl ?_
  obtain ⟨h45, hf⟩ := grd hf
  refine g_iast X 64 (n := 960) dX10_spell_45 (sgN (by decide)) rfl rfl h45 ?_
  refine g_aload_n X 0 dX10_spell_46 rfl rfl ?_
  refine g_getr X (x := ad 64) 63 9 1 dX10_spell_47 (sgN (by decide)) rfl (by decide) rfl iw_X10 (by decide) rfl q_fl_X10_13 rfl ?_
  refine g_iload_n X 1 dX10_spell_50 rfl rfl ?_
  refine g_iconst X (v := 5) dX10_spell_51 (by decide) ?_
  refine g_iadd X dX10_spell_52 ?_
  refine g_iload X 7 dX10_spell_53 rfl ?_
  obtain ⟨h55, hf⟩ := grd hf
  refine g_iast X 64 (n := 960) dX10_spell_55 (sgN (by decide)) rfl rfl h55 ?_
  refine g_aload_n X 0 dX10_spell_56 rfl rfl ?_
  refine g_getr X (x := ad 64) 63 9 1 dX10_spell_57 (sgN (by decide)) rfl (by decide) rfl iw_X10 (by decide) rfl q_fl_X10_13 rfl ?_
  refine g_iload_n X 1 dX10_spell_60 rfl rfl ?_
  refine g_bipush X (v := 6) dX10_spell_61 (by decide) ?_
  refine g_iadd X dX10_spell_63 ?_
  refine g_iload X 8 dX10_spell_64 rfl ?_
  obtain ⟨h66, hf⟩ := grd hf
  refine g_iast X 64 (n := 960) dX10_spell_66 (sgN (by decide)) rfl rfl h66 ?_
  refine g_aload_n X 0 dX10_spell_67 rfl rfl ?_
  refine g_getr X (x := ad 64) 63 9 1 dX10_spell_68 (sgN (by decide)) rfl (by decide) rfl iw_X10 (by decide) rfl q_fl_X10_13 rfl ?_
  refine g_iload_n X 1 dX10_spell_71 rfl rfl ?_
  refine g_bipush X (v := 7) dX10_spell_72 (by decide) ?_
  refine g_iadd X dX10_spell_74 ?_
  refine g_iload X 9 dX10_spell_75 rfl ?_
  obtain ⟨h77, hf⟩ := grd hf
  refine g_iast X 64 (n := 960) dX10_spell_77 (sgN (by decide)) rfl rfl h77 ?_
  obtain rfl := lf1 hf
  exact hret 78 _ dX10_spell_78

theorem kS_X10_76 : wcS RX10 76 yX10_in cX10_in 6 (some .boolean) 3 := ⟨q_ml_X10_76, q_st_yX10_in, q_in_X10, q_co_yX10_in, by decide +kernel⟩

def X10_isOne (p0 : Int32) (m0 : Mem) : Option (Int32 × Mem) :=
  bi (X10_in p0.toInt64 (0 : Int64) (((m0.1 63 11) - (1 : Int32)).toInt64) m0) fun r10 m10 =>
  if r10 = 0 ∨ r10 = 1 then some (r10, m10) else none
abbrev rmX10_isOne : Room := { frames := 1, cells := 0, slots := 0, locals := 25 }

set_option maxRecDepth 100000 in
set_option maxHeartbeats 4000000 in
theorem c_X10_isOne {l : Launch} {G : GG} {b : Nat} {ad : Nat → Nat} {nt : Nat} {z : Nat → Nat} {p0 : Int32} {m0 : Mem} {r9 : Int32} {m9 : Mem} (hf : X10_isOne p0 m0 = some (r9, m9)) : MtI l yX10_isOne cX10_isOne 2 (some .boolean) rmX10_isOne G b (sg ad nt z) m0 [.ref (ad 63), .int p0] (pEI r9 (sg ad nt z) m9) := by
  refine mtI_of (by decide) (Nat.le_of_ble_eq_true rfl) .boolean rfl (fun Γ hG X hnm hr => ?_)
  have hret : ∀ (pc : Nat) (lv : List (Nat × Value)), decode cX10_isOne pc = .ok (.ireturn, 1) → narrow .boolean (.int r9) = .int r9 → Go Γ b (sg ad nt z) 0 0 pc lv [.int r9] m9 := fun pc lv d hn => hr pc lv _ _ _ d ⟨rfl, rfl, rfl⟩ hn
  show Go Γ b (sg ad nt z) 0 0 0 [(0, .ref (ad 63)), (1, .int p0)] [] m0
  refine g_iload_n X 1 dX10_isOne_0 rfl rfl ?_
  refine g_i2l X dX10_isOne_1 ?_
  refine g_lconst X (v := 0) dX10_isOne_2 (by decide) ?_
  refine g_aload_n X 0 dX10_isOne_3 rfl rfl ?_
  refine g_getI X 63 9 11 dX10_isOne_4 (sgN (by decide)) rfl (by decide) rfl iw_X10 (by decide) rfl q_fl_X10_73 ?_
  refine g_iconst X (v := 1) dX10_isOne_7 (by decide) ?_
  refine g_isub X dX10_isOne_8 ?_
  refine g_i2l X dX10_isOne_9 ?_
  obtain ⟨r10, m10, h10, hf⟩ := bi_i hf
  refine g_eSI X [.long p0.toInt64, .long (0 : Int64), .long (((m0.1 63 11) - (1 : Int32)).toInt64)] kS_X10_76 (c_X10_in h10) dX10_isOne_10 rfl rfl ⟨(Nat.le_of_ble_eq_true rfl), (Nat.le_of_ble_eq_true rfl)⟩ ⟨rfl, rfl⟩ ⟨(Nat.zero_le _), (Nat.zero_le _)⟩ (Nat.le_of_ble_eq_true rfl) ?_
  obtain ⟨hz, hf⟩ := grd hf
  obtain ⟨rfl, rfl⟩ := lf2 hf
  exact hret 13 _ dX10_isOne_13 (nw_z hz)

def X10_isPlace (p0 : Int32) (m0 : Mem) : Option (Int32 × Mem) :=
  bi (X10_in p0.toInt64 (0 : Int64) (7 : Int64) m0) fun r6 m6 =>
  if r6 = 0 ∨ r6 = 1 then some (r6, m6) else none
abbrev rmX10_isPlace : Room := { frames := 1, cells := 0, slots := 0, locals := 25 }

set_option maxRecDepth 100000 in
set_option maxHeartbeats 4000000 in
theorem c_X10_isPlace {l : Launch} {G : GG} {b : Nat} {ad : Nat → Nat} {nt : Nat} {z : Nat → Nat} {p0 : Int32} {m0 : Mem} {r9 : Int32} {m9 : Mem} (hf : X10_isPlace p0 m0 = some (r9, m9)) : MtI l yX10_isPlace cX10_isPlace 1 (some .boolean) rmX10_isPlace G b (sg ad nt z) m0 [.int p0] (pEI r9 (sg ad nt z) m9) := by
  refine mtI_of (by decide) (Nat.le_of_ble_eq_true rfl) .boolean rfl (fun Γ hG X hnm hr => ?_)
  have hret : ∀ (pc : Nat) (lv : List (Nat × Value)), decode cX10_isPlace pc = .ok (.ireturn, 1) → narrow .boolean (.int r9) = .int r9 → Go Γ b (sg ad nt z) 0 0 pc lv [.int r9] m9 := fun pc lv d hn => hr pc lv _ _ _ d ⟨rfl, rfl, rfl⟩ hn
  show Go Γ b (sg ad nt z) 0 0 0 [(0, .int p0)] [] m0
  refine g_iload_n X 0 dX10_isPlace_0 rfl rfl ?_
  refine g_i2l X dX10_isPlace_1 ?_
  refine g_lconst X (v := 0) dX10_isPlace_2 (by decide) ?_
  refine g_ldc2 X dX10_isPlace_3 q_cl_X10_80 ?_
  obtain ⟨r6, m6, h6, hf⟩ := bi_i hf
  refine g_eSI X [.long p0.toInt64, .long (0 : Int64), .long (7 : Int64)] kS_X10_76 (c_X10_in h6) dX10_isPlace_6 rfl rfl ⟨(Nat.le_of_ble_eq_true rfl), (Nat.le_of_ble_eq_true rfl)⟩ ⟨rfl, rfl⟩ ⟨(Nat.zero_le _), (Nat.zero_le _)⟩ (Nat.le_of_ble_eq_true rfl) ?_
  obtain ⟨hz, hf⟩ := grd hf
  obtain ⟨rfl, rfl⟩ := lf2 hf
  exact hret 9 _ dX10_isPlace_9 (nw_z hz)

def X10_mostOf (p0 : Int32) (m0 : Mem) : Option (Int32 × Mem) :=
  if p0 = 0 then
    some ((999 : Int32), m0)
  else
    if p0 = (1 : Int32) then
      some ((9 : Int32), m0)
    else
      if p0 = (2 : Int32) then
        some ((7 : Int32), m0)
      else
        some ((255 : Int32), m0)
abbrev rmX10_mostOf : Room := { frames := 0, cells := 0, slots := 0, locals := 0 }

set_option maxRecDepth 100000 in
set_option maxHeartbeats 4000000 in
theorem c_X10_mostOf {l : Launch} {G : GG} {b : Nat} {ad : Nat → Nat} {nt : Nat} {z : Nat → Nat} {p0 : Int32} {m0 : Mem} {r9 : Int32} {m9 : Mem} (hf : X10_mostOf p0 m0 = some (r9, m9)) : MtI l yX10_mostOf cX10_mostOf 1 (some .int) rmX10_mostOf G b (sg ad nt z) m0 [.int p0] (pEI r9 (sg ad nt z) m9) := by
  refine mtI_of (by decide) (Nat.le_of_ble_eq_true rfl) .int rfl (fun Γ hG X hnm hr => ?_)
  have hret : ∀ (pc : Nat) (lv : List (Nat × Value)), decode cX10_mostOf pc = .ok (.ireturn, 1) → narrow .int (.int r9) = .int r9 → Go Γ b (sg ad nt z) 0 0 pc lv [.int r9] m9 := fun pc lv d hn => hr pc lv _ _ _ d ⟨rfl, rfl, rfl⟩ hn
  show Go Γ b (sg ad nt z) 0 0 0 [(0, .int p0)] [] m0
  refine g_iload_n X 0 dX10_mostOf_0 rfl rfl ?_
  refine g_if_ne X (tgt := 10) dX10_mostOf_1 (by decide) (fun c1 => ?_) (fun c1 => ?_)
  · have hf := ie c1 hf
    refine g_iload_n X 0 dX10_mostOf_10 rfl rfl ?_
    refine g_iconst X (v := 1) dX10_mostOf_11 (by decide) ?_
    refine g_icmp_ne X (tgt := 20) dX10_mostOf_12 (by decide) (fun c12 => ?_) (fun c12 => ?_)
    · have hf := ie c12 hf
      refine g_iload_n X 0 dX10_mostOf_20 rfl rfl ?_
      refine g_iconst X (v := 2) dX10_mostOf_21 (by decide) ?_
      refine g_icmp_ne X (tgt := 30) dX10_mostOf_22 (by decide) (fun c22 => ?_) (fun c22 => ?_)
      · have hf := ie c22 hf
        refine g_sipush X (v := 255) dX10_mostOf_30 (by decide) ?_
        obtain ⟨rfl, rfl⟩ := lf2 hf
        exact hret 33 _ dX10_mostOf_33 rfl
      · have hf := it c22 hf
        refine g_bipush X (v := 7) dX10_mostOf_25 (by decide) ?_
        refine g_goto X (tgt := 33) dX10_mostOf_27 (by decide) ?_
        obtain ⟨rfl, rfl⟩ := lf2 hf
        exact hret 33 _ dX10_mostOf_33 rfl
    · have hf := it c12 hf
      refine g_bipush X (v := 9) dX10_mostOf_15 (by decide) ?_
      refine g_goto X (tgt := 33) dX10_mostOf_17 (by decide) ?_
      obtain ⟨rfl, rfl⟩ := lf2 hf
      exact hret 33 _ dX10_mostOf_33 rfl
  · have hf := it c1 hf
    refine g_sipush X (v := 999) dX10_mostOf_4 (by decide) ?_
    refine g_goto X (tgt := 33) dX10_mostOf_7 (by decide) ?_
    obtain ⟨rfl, rfl⟩ := lf2 hf
    exact hret 33 _ dX10_mostOf_33 rfl

def X10_knows (p0 : Int32) (m0 : Mem) : Option (Int32 × Mem) :=
  if inn (((5 : Int32) * p0) + (2 : Int32)) 30 then
  some (m0.1 69 (((5 : Int32) * p0) + (2 : Int32)).toNatClampNeg, m0)
  else none
abbrev rmX10_knows : Room := { frames := 0, cells := 0, slots := 0, locals := 0 }

set_option maxRecDepth 100000 in
set_option maxHeartbeats 4000000 in
theorem c_X10_knows {l : Launch} {G : GG} {b : Nat} {ad : Nat → Nat} {nt : Nat} {z : Nat → Nat} {p0 : Int32} {m0 : Mem} {r9 : Int32} {m9 : Mem} (hf : X10_knows p0 m0 = some (r9, m9)) : MtI l yX10_knows cX10_knows 2 (some .int) rmX10_knows G b (sg ad nt z) m0 [.ref (ad 63), .int p0] (pEI r9 (sg ad nt z) m9) := by
  refine mtI_of (by decide) (Nat.le_of_ble_eq_true rfl) .int rfl (fun Γ hG X hnm hr => ?_)
  have hret : ∀ (pc : Nat) (lv : List (Nat × Value)), decode cX10_knows pc = .ok (.ireturn, 1) → narrow .int (.int r9) = .int r9 → Go Γ b (sg ad nt z) 0 0 pc lv [.int r9] m9 := fun pc lv d hn => hr pc lv _ _ _ d ⟨rfl, rfl, rfl⟩ hn
  show Go Γ b (sg ad nt z) 0 0 0 [(0, .ref (ad 63)), (1, .int p0)] [] m0
  refine g_aload_n X 0 dX10_knows_0 rfl rfl ?_
  refine g_getr X (x := ad 69) 63 9 10 dX10_knows_1 (sgN (by decide)) rfl (by decide) rfl iw_X10 (by decide) rfl q_fl_X10_29 rfl ?_
  refine g_iconst X (v := 5) dX10_knows_4 (by decide) ?_
  refine g_iload_n X 1 dX10_knows_5 rfl rfl ?_
  refine g_imul X dX10_knows_6 ?_
  refine g_iconst X (v := 2) dX10_knows_7 (by decide) ?_
  refine g_iadd X dX10_knows_8 ?_
  obtain ⟨h9, hf⟩ := grd hf
  refine g_iald X 69 (n := 30) dX10_knows_9 (sgN (by decide)) rfl rfl h9 ?_
  obtain ⟨rfl, rfl⟩ := lf2 hf
  exact hret 10 _ dX10_knows_10 rfl

def X10_bitsOf_4 : Nat → Int32 → Int32 → Mem → Option (Int32 × Mem)
  | 0, _, _, _ => none
  | n + 1, v1, v2, m0 =>
    if v2 = 0 then
      some (v1, m0)
    else
      X10_bitsOf_4 n (v1 + (1 : Int32)) (v2 &&& (v2 - (1 : Int32))) m0
def X10_bitsOf (p0 : Int32) (m0 : Mem) : Option (Int32 × Mem) :=
  X10_bitsOf_4 10000 (0 : Int32) p0 m0
abbrev rmX10_bitsOf : Room := { frames := 0, cells := 0, slots := 0, locals := 0 }
set_option maxRecDepth 100000 in
set_option maxHeartbeats 4000000 in
theorem w_X10_bitsOf_4 {Γ : Ga} {b : Nat} {ad : Nat → Nat} {nt : Nat} {z : Nat → Nat} {r9 : Int32} {m9 : Mem} (X : Cx Γ b cX10_bitsOf 3 RX10 (some .int) rmX10_bitsOf) (hret : ∀ (pc : Nat) (lv : List (Nat × Value)), decode cX10_bitsOf pc = .ok (.ireturn, 1) → narrow .int (.int r9) = .int r9 → Go Γ b (sg ad nt z) 0 0 pc lv [.int r9] m9) : ∀ (n : Nat) (v1 : Int32) (v2 : Int32) (m0 : Mem), X10_bitsOf_4 n v1 v2 m0 = some (r9, m9) → Go Γ b (sg ad nt z) 0 0 4 [(1, .int v1), (2, .int v2)] [] m0 := by
  intro n
  induction n with
  | zero =>
    intro v1 v2 m0 hf
    cases hf
  | succ n ih =>
    intro v1 v2 m0 hf
    refine g_iload_n X 1 dX10_bitsOf_4 rfl rfl ?_
    refine g_if_eq X (tgt := 20) dX10_bitsOf_5 (by decide) (fun c5 => ?_) (fun c5 => ?_)
    · have hf := it c5 hf
      refine g_iload_n X 0 dX10_bitsOf_20 rfl rfl ?_
      obtain ⟨rfl, rfl⟩ := lf2 hf
      exact hret 21 _ dX10_bitsOf_21 rfl
    · have hf := ie c5 hf
      refine g_iinc X 0 (v := v1 + (1 : Int32)) (lv' := [(1, .int (v1 + (1 : Int32))), (2, .int v2)]) dX10_bitsOf_8 rfl rfl (by decide) rfl ?_
      refine g_iload_n X 1 dX10_bitsOf_11 rfl rfl ?_
      refine g_iload_n X 1 dX10_bitsOf_12 rfl rfl ?_
      refine g_iconst X (v := 1) dX10_bitsOf_13 (by decide) ?_
      refine g_isub X dX10_bitsOf_14 ?_
      refine g_iand X dX10_bitsOf_15 ?_
      refine g_istore_n X (lv' := [(2, .int (v2 &&& (v2 - (1 : Int32)))), (1, .int (v1 + (1 : Int32)))]) dX10_bitsOf_16 rfl (by decide) rfl ?_
      refine g_goto X (tgt := 4) dX10_bitsOf_17 (by decide) ?_
      refine g_pick [1, 0] (lv' := [(1, .int (v1 + (1 : Int32))), (2, .int (v2 &&& (v2 - (1 : Int32))))]) rfl ?_
      exact ih (v1 + (1 : Int32)) (v2 &&& (v2 - (1 : Int32))) m0 hf
set_option maxRecDepth 100000 in
set_option maxHeartbeats 4000000 in
theorem c_X10_bitsOf {l : Launch} {G : GG} {b : Nat} {ad : Nat → Nat} {nt : Nat} {z : Nat → Nat} {p0 : Int32} {m0 : Mem} {r9 : Int32} {m9 : Mem} (hf : X10_bitsOf p0 m0 = some (r9, m9)) : MtI l yX10_bitsOf cX10_bitsOf 3 (some .int) rmX10_bitsOf G b (sg ad nt z) m0 [.int p0] (pEI r9 (sg ad nt z) m9) := by
  refine mtI_of (by decide) (Nat.le_of_ble_eq_true rfl) .int rfl (fun Γ hG X hnm hr => ?_)
  have hret : ∀ (pc : Nat) (lv : List (Nat × Value)), decode cX10_bitsOf pc = .ok (.ireturn, 1) → narrow .int (.int r9) = .int r9 → Go Γ b (sg ad nt z) 0 0 pc lv [.int r9] m9 := fun pc lv d hn => hr pc lv _ _ _ d ⟨rfl, rfl, rfl⟩ hn
  show Go Γ b (sg ad nt z) 0 0 0 [(0, .int p0)] [] m0
  refine g_iconst X (v := 0) dX10_bitsOf_0 (by decide) ?_
  refine g_istore_n X (lv' := [(1, .int (0 : Int32)), (0, .int p0)]) dX10_bitsOf_1 rfl (by decide) rfl ?_
  refine g_iload_n X 1 dX10_bitsOf_2 rfl rfl ?_
  refine g_istore_n X (lv' := [(2, .int p0), (1, .int (0 : Int32)), (0, .int p0)]) dX10_bitsOf_3 rfl (by decide) rfl ?_
  refine g_pick [1, 0] (lv' := [(1, .int (0 : Int32)), (2, .int p0)]) rfl ?_
  exact w_X10_bitsOf_4 X hret 10000 (0 : Int32) p0 m0 hf

def X10_byteAt (p0 : Int32) (m0 : Mem) : Option (Int32 × Mem) :=
  if (m0.1 63 20) ≤ p0 then
    some ((-1 : Int32), m0)
  else
    if inn ((m0.1 63 19) + p0) 960 then
    some (m0.1 64 ((m0.1 63 19) + p0).toNatClampNeg, m0)
    else none
abbrev rmX10_byteAt : Room := { frames := 0, cells := 0, slots := 0, locals := 0 }

set_option maxRecDepth 100000 in
set_option maxHeartbeats 4000000 in
theorem c_X10_byteAt {l : Launch} {G : GG} {b : Nat} {ad : Nat → Nat} {nt : Nat} {z : Nat → Nat} {p0 : Int32} {m0 : Mem} {r9 : Int32} {m9 : Mem} (hf : X10_byteAt p0 m0 = some (r9, m9)) : MtI l yX10_byteAt cX10_byteAt 2 (some .int) rmX10_byteAt G b (sg ad nt z) m0 [.ref (ad 63), .int p0] (pEI r9 (sg ad nt z) m9) := by
  refine mtI_of (by decide) (Nat.le_of_ble_eq_true rfl) .int rfl (fun Γ hG X hnm hr => ?_)
  have hret : ∀ (pc : Nat) (lv : List (Nat × Value)), decode cX10_byteAt pc = .ok (.ireturn, 1) → narrow .int (.int r9) = .int r9 → Go Γ b (sg ad nt z) 0 0 pc lv [.int r9] m9 := fun pc lv d hn => hr pc lv _ _ _ d ⟨rfl, rfl, rfl⟩ hn
  show Go Γ b (sg ad nt z) 0 0 0 [(0, .ref (ad 63)), (1, .int p0)] [] m0
  refine g_iload_n X 1 dX10_byteAt_0 rfl rfl ?_
  refine g_aload_n X 0 dX10_byteAt_1 rfl rfl ?_
  refine g_getI X 63 9 20 dX10_byteAt_2 (sgN (by decide)) rfl (by decide) rfl iw_X10 (by decide) rfl q_fl_X10_150 ?_
  refine g_icmp_ge X (tgt := 22) dX10_byteAt_5 (by decide) (fun c5 => ?_) (fun c5 => ?_)
  · have hf := it c5 hf
    refine g_iconst X (v := -1) dX10_byteAt_22 (by decide) ?_
    obtain ⟨rfl, rfl⟩ := lf2 hf
    exact hret 23 _ dX10_byteAt_23 rfl
  · have hf := ie c5 hf
    refine g_aload_n X 0 dX10_byteAt_8 rfl rfl ?_
    refine g_getr X (x := ad 64) 63 9 1 dX10_byteAt_9 (sgN (by decide)) rfl (by decide) rfl iw_X10 (by decide) rfl q_fl_X10_13 rfl ?_
    refine g_aload_n X 0 dX10_byteAt_12 rfl rfl ?_
    refine g_getI X 63 9 19 dX10_byteAt_13 (sgN (by decide)) rfl (by decide) rfl iw_X10 (by decide) rfl q_fl_X10_153 ?_
    refine g_iload_n X 1 dX10_byteAt_16 rfl rfl ?_
    refine g_iadd X dX10_byteAt_17 ?_
    obtain ⟨h18, hf⟩ := grd hf
    refine g_iald X 64 (n := 960) dX10_byteAt_18 (sgN (by decide)) rfl rfl h18 ?_
    refine g_goto X (tgt := 23) dX10_byteAt_19 (by decide) ?_
    obtain ⟨rfl, rfl⟩ := lf2 hf
    exact hret 23 _ dX10_byteAt_23 rfl

theorem kV_X10_159 : wcV RX10 159 RX10 yX10_byteAt cX10_byteAt 2 (some .int) 1 := ⟨q_ml_X10_159, q_im_yX10_byteAt, q_se_yX10_byteAt, q_in_X10, q_co_yX10_byteAt, by decide +kernel⟩

def X10_next_26 (k0 : Mem → Option (Mem)) (m0 : Mem) : Option (Mem) :=
  k0 (pI m0 63 21 ((m0.1 63 21) + (1 : Int32)))
def X10_next_300 (v1 : Int32) (m0 : Mem) : Option (Mem) :=
  some (pI (pJ (pI m0 63 22 (3 : Int32)) 63 24 v1.toInt64) 63 21 (((pJ (pI m0 63 22 (3 : Int32)) 63 24 v1.toInt64).1 63 21) + (1 : Int32)))
def X10_next_216 (k160 : Int32 → Mem → Option (Mem)) (v2 : Int32) (s0 : Int64) (m0 : Mem) : Option (Mem) :=
  k160 (v2 + (1 : Int32)) (pI (pJ m0 63 24 s0) 63 21 (((pJ m0 63 24 s0).1 63 21) + (1 : Int32)))
def X10_next_160 : Nat → Int32 → Mem → Option (Mem)
  | 0, _, _ => none
  | n + 1, v2, m0 =>
    bi (X10_byteAt (m0.1 63 21) m0) fun r165 m165 =>
    bi (X10_in r165.toInt64 (48 : Int64) (57 : Int64) m165) fun r175 m175 =>
    if r175 = 0 then
      if v2 ≤ (4 : Int32) then
        some (pI m175 63 22 (2 : Int32))
      else
        some (pI m175 63 22 (4 : Int32))
    else
      if (4 : Int32) ≤ v2 then
        X10_next_216 (X10_next_160 n) v2 (m175.2 63 24) m175
      else
        bi (X10_byteAt (m175.1 63 21) m175) fun r200 m200 =>
        X10_next_216 (X10_next_160 n) v2 ((((10 : Int64) * (m175.2 63 24)) + r200.toInt64) - (48 : Int64)) m200
def X10_next_100 : Nat → Mem → Option (Mem)
  | 0, _ => none
  | n + 1, m0 =>
    bi (X10_byteAt (m0.1 63 21) m0) fun r105 m105 =>
    bi (X10_in r105.toInt64 (97 : Int64) (122 : Int64) m105) fun r115 m115 =>
    if r115 = 0 then
      some m115
    else
      X10_next_100 n (pI m115 63 21 ((m115.1 63 21) + (1 : Int32)))
def X10_next_0 : Nat → Mem → Option (Mem)
  | 0, _ => none
  | n + 1, m0 =>
    bi (X10_byteAt (m0.1 63 21) m0) fun r5 m5 =>
    if r5 = (32 : Int32) then
      X10_next_26 (X10_next_0 n) m5
    else
      bi (X10_byteAt (m5.1 63 21) m5) fun r18 m18 =>
      if r18 = (10 : Int32) then
        X10_next_26 (X10_next_0 n) m18
      else
        bi (X10_byteAt ((pI m18 63 23 (m18.1 63 21)).1 63 21) (pI m18 63 23 (m18.1 63 21))) fun r52 m52 =>
        if 0 ≤ r52 then
          bi (X10_in r52.toInt64 (97 : Int64) (122 : Int64) (pI m52 63 22 (4 : Int32))) fun r89 m89 =>
          if r89 = 0 then
            bi (X10_in r52.toInt64 (48 : Int64) (57 : Int64) m89) fun r142 m142 =>
            if r142 = 0 then
              if r52 = (40 : Int32) then
                X10_next_300 r52 m142
              else
                if r52 = (41 : Int32) then
                  X10_next_300 r52 m142
                else
                  if r52 = (59 : Int32) then
                    X10_next_300 r52 m142
                  else
                    if r52 = (43 : Int32) then
                      X10_next_300 r52 m142
                    else
                      if r52 = (45 : Int32) then
                        X10_next_300 r52 m142
                      else
                        if r52 = (42 : Int32) then
                          X10_next_300 r52 m142
                        else
                          if r52 = (60 : Int32) then
                            X10_next_300 r52 m142
                          else
                            if r52 = (61 : Int32) then
                              X10_next_300 r52 m142
                            else
                              some m142
            else
              X10_next_160 10000 (0 : Int32) (pJ (pI m142 63 22 (2 : Int32)) 63 24 (0 : Int64))
          else
            X10_next_100 10000 (pI m89 63 22 (1 : Int32))
        else
          some (pI (pI (pI m52 63 22 (4 : Int32)) 63 22 (0 : Int32)) 63 23 ((pI (pI m52 63 22 (4 : Int32)) 63 22 (0 : Int32)).1 63 20))
def X10_next (m0 : Mem) : Option (Mem) :=
  X10_next_0 10000 m0
abbrev rmX10_next : Room := { frames := 1, cells := 0, slots := 0, locals := 25 }
set_option maxRecDepth 100000 in
set_option maxHeartbeats 4000000 in
theorem w_X10_next_26 {Γ : Ga} {b : Nat} {ad : Nat → Nat} {nt : Nat} {z : Nat → Nat} {k0 : Mem → Option (Mem)} {m9 : Mem} (X : Cx Γ b cX10_next 3 RX10 (none) rmX10_next) (hret : ∀ (pc : Nat) (lv : List (Nat × Value)), decode cX10_next pc = .ok (.return_, 1) → Go Γ b (sg ad nt z) 0 0 pc lv [] m9) (hk0 : ∀ (m0 : Mem), k0 m0 = some m9 → Go Γ b (sg ad nt z) 0 0 0 [(0, .ref (ad 63))] [] m0) (m0 : Mem) (hf : X10_next_26 k0 m0 = some m9) : Go Γ b (sg ad nt z) 0 0 26 [(0, .ref (ad 63))] [] m0 := by
  refine g_aload_n X 0 dX10_next_26 rfl rfl ?_
  refine g_dup X dX10_next_27 rfl ?_
  refine g_getI X 63 9 21 dX10_next_28 (sgN (by decide)) rfl (by decide) rfl iw_X10 (by decide) rfl q_fl_X10_156 ?_
  refine g_iconst X (v := 1) dX10_next_31 (by decide) ?_
  refine g_iadd X dX10_next_32 ?_
  refine g_putI X (tyf := tyX10) 63 9 21 dX10_next_33 (sgN (by decide)) rfl (by decide) rfl iw_X10 (by decide) rfl q_fl_X10_156 tyX10_ok nmX10 rfl rfl rfl ?_
  refine g_goto X (tgt := 0) dX10_next_36 (by decide) ?_
  exact hk0 (pI m0 63 21 ((m0.1 63 21) + (1 : Int32))) hf
set_option maxRecDepth 100000 in
set_option maxHeartbeats 4000000 in
theorem w_X10_next_300 {Γ : Ga} {b : Nat} {ad : Nat → Nat} {nt : Nat} {z : Nat → Nat} {m9 : Mem} (X : Cx Γ b cX10_next 3 RX10 (none) rmX10_next) (hret : ∀ (pc : Nat) (lv : List (Nat × Value)), decode cX10_next pc = .ok (.return_, 1) → Go Γ b (sg ad nt z) 0 0 pc lv [] m9) (v1 : Int32) (m0 : Mem) (hf : X10_next_300 v1 m0 = some m9) : Go Γ b (sg ad nt z) 0 0 300 [(0, .ref (ad 63)), (1, .int v1)] [] m0 := by
  refine g_aload_n X 0 dX10_next_300 rfl rfl ?_
  refine g_iconst X (v := 3) dX10_next_301 (by decide) ?_
  refine g_putI X (tyf := tyX10) 63 9 22 dX10_next_302 (sgN (by decide)) rfl (by decide) rfl iw_X10 (by decide) rfl q_fl_X10_165 tyX10_ok nmX10 rfl rfl rfl ?_
  refine g_aload_n X 0 dX10_next_305 rfl rfl ?_
  refine g_iload_n X 1 dX10_next_306 rfl rfl ?_
  refine g_i2l X dX10_next_307 ?_
  refine g_putJ X (tyf := tyX10) 63 9 24 dX10_next_308 (sgN (by decide)) rfl (by decide) rfl iw_X10 (by decide) rfl q_fl_X10_176 tyX10_ok nmX10 rfl rfl rfl ?_
  refine g_aload_n X 0 dX10_next_311 rfl rfl ?_
  refine g_dup X dX10_next_312 rfl ?_
  refine g_getI X 63 9 21 dX10_next_313 (sgN (by decide)) rfl (by decide) rfl iw_X10 (by decide) rfl q_fl_X10_156 ?_
  refine g_iconst X (v := 1) dX10_next_316 (by decide) ?_
  refine g_iadd X dX10_next_317 ?_
  refine g_putI X (tyf := tyX10) 63 9 21 dX10_next_318 (sgN (by decide)) rfl (by decide) rfl iw_X10 (by decide) rfl q_fl_X10_156 tyX10_ok nmX10 rfl rfl rfl ?_
  obtain rfl := lf1 hf
  exact hret 321 _ dX10_next_321
set_option maxRecDepth 100000 in
set_option maxHeartbeats 4000000 in
theorem w_X10_next_216 {Γ : Ga} {b : Nat} {ad : Nat → Nat} {nt : Nat} {z : Nat → Nat} {k160 : Int32 → Mem → Option (Mem)} {m9 : Mem} (X : Cx Γ b cX10_next 3 RX10 (none) rmX10_next) (hret : ∀ (pc : Nat) (lv : List (Nat × Value)), decode cX10_next pc = .ok (.return_, 1) → Go Γ b (sg ad nt z) 0 0 pc lv [] m9) (hk160 : ∀ (v2 : Int32) (m0 : Mem), k160 v2 m0 = some m9 → Go Γ b (sg ad nt z) 0 0 160 [(0, .ref (ad 63)), (2, .int v2)] [] m0) (v2 : Int32) (s0 : Int64) (m0 : Mem) (hf : X10_next_216 k160 v2 s0 m0 = some m9) : Go Γ b (sg ad nt z) 0 0 216 [(0, .ref (ad 63)), (2, .int v2)] [.long s0, .ref (ad 63)] m0 := by
  refine g_putJ X (tyf := tyX10) 63 9 24 dX10_next_216 (sgN (by decide)) rfl (by decide) rfl iw_X10 (by decide) rfl q_fl_X10_176 tyX10_ok nmX10 rfl rfl rfl ?_
  refine g_iinc X 1 (v := v2 + (1 : Int32)) (lv' := [(2, .int (v2 + (1 : Int32))), (0, .ref (ad 63))]) dX10_next_219 rfl rfl (by decide) rfl ?_
  refine g_aload_n X 1 dX10_next_222 rfl rfl ?_
  refine g_dup X dX10_next_223 rfl ?_
  refine g_getI X 63 9 21 dX10_next_224 (sgN (by decide)) rfl (by decide) rfl iw_X10 (by decide) rfl q_fl_X10_156 ?_
  refine g_iconst X (v := 1) dX10_next_227 (by decide) ?_
  refine g_iadd X dX10_next_228 ?_
  refine g_putI X (tyf := tyX10) 63 9 21 dX10_next_229 (sgN (by decide)) rfl (by decide) rfl iw_X10 (by decide) rfl q_fl_X10_156 tyX10_ok nmX10 rfl rfl rfl ?_
  refine g_goto X (tgt := 160) dX10_next_232 (by decide) ?_
  refine g_pick [1, 0] (lv' := [(0, .ref (ad 63)), (2, .int (v2 + (1 : Int32)))]) rfl ?_
  exact hk160 (v2 + (1 : Int32)) (pI (pJ m0 63 24 s0) 63 21 (((pJ m0 63 24 s0).1 63 21) + (1 : Int32))) hf
set_option maxRecDepth 100000 in
set_option maxHeartbeats 4000000 in
theorem w_X10_next_160 {Γ : Ga} {b : Nat} {ad : Nat → Nat} {nt : Nat} {z : Nat → Nat} {m9 : Mem} (X : Cx Γ b cX10_next 3 RX10 (none) rmX10_next) (hret : ∀ (pc : Nat) (lv : List (Nat × Value)), decode cX10_next pc = .ok (.return_, 1) → Go Γ b (sg ad nt z) 0 0 pc lv [] m9) : ∀ (n : Nat) (v2 : Int32) (m0 : Mem), X10_next_160 n v2 m0 = some m9 → Go Γ b (sg ad nt z) 0 0 160 [(0, .ref (ad 63)), (2, .int v2)] [] m0 := by
  intro n
  induction n with
  | zero =>
    intro v2 m0 hf
    cases hf
  | succ n ih =>
    intro v2 m0 hf
    refine g_aload_n X 0 dX10_next_160 rfl rfl ?_
    refine g_aload_n X 0 dX10_next_161 rfl rfl ?_
    refine g_getI X 63 9 21 dX10_next_162 (sgN (by decide)) rfl (by decide) rfl iw_X10 (by decide) rfl q_fl_X10_156 ?_
    obtain ⟨r165, m165, h165, hf⟩ := bi_i hf
    refine g_eVI X 63 9 [.int (m0.1 63 21)] kV_X10_159 (c_X10_byteAt h165) dX10_next_165 rfl rfl (sgN (by decide)) rfl (by decide) rfl rfl ⟨(Nat.le_of_ble_eq_true rfl), (Nat.le_of_ble_eq_true rfl)⟩ ⟨rfl, rfl⟩ ⟨(Nat.zero_le _), (Nat.zero_le _)⟩ (Nat.le_of_ble_eq_true rfl) ?_
    refine g_i2l X dX10_next_168 ?_
    refine g_ldc2 X dX10_next_169 q_cl_X10_172 ?_
    refine g_ldc2 X dX10_next_172 q_cl_X10_174 ?_
    obtain ⟨r175, m175, h175, hf⟩ := bi_i hf
    refine g_eSI X [.long r165.toInt64, .long (48 : Int64), .long (57 : Int64)] kS_X10_76 (c_X10_in h175) dX10_next_175 rfl rfl ⟨(Nat.le_of_ble_eq_true rfl), (Nat.le_of_ble_eq_true rfl)⟩ ⟨rfl, rfl⟩ ⟨(Nat.zero_le _), (Nat.zero_le _)⟩ (Nat.le_of_ble_eq_true rfl) ?_
    refine g_if_eq X (tgt := 235) dX10_next_178 (by decide) (fun c178 => ?_) (fun c178 => ?_)
    · have hf := it c178 hf
      refine g_aload_n X 0 dX10_next_235 rfl rfl ?_
      refine g_iload_n X 1 dX10_next_236 rfl rfl ?_
      refine g_iconst X (v := 4) dX10_next_237 (by decide) ?_
      refine g_icmp_le X (tgt := 245) dX10_next_238 (by decide) (fun c238 => ?_) (fun c238 => ?_)
      · have hf := it c238 hf
        refine g_iconst X (v := 2) dX10_next_245 (by decide) ?_
        refine g_putI X (tyf := tyX10) 63 9 22 dX10_next_246 (sgN (by decide)) rfl (by decide) rfl iw_X10 (by decide) rfl q_fl_X10_165 tyX10_ok nmX10 rfl rfl rfl ?_
        refine g_goto X (tgt := 321) dX10_next_249 (by decide) ?_
        obtain rfl := lf1 hf
        exact hret 321 _ dX10_next_321
      · have hf := ie c238 hf
        refine g_iconst X (v := 4) dX10_next_241 (by decide) ?_
        refine g_goto X (tgt := 246) dX10_next_242 (by decide) ?_
        refine g_putI X (tyf := tyX10) 63 9 22 dX10_next_246 (sgN (by decide)) rfl (by decide) rfl iw_X10 (by decide) rfl q_fl_X10_165 tyX10_ok nmX10 rfl rfl rfl ?_
        refine g_goto X (tgt := 321) dX10_next_249 (by decide) ?_
        obtain rfl := lf1 hf
        exact hret 321 _ dX10_next_321
    · have hf := ie c178 hf
      refine g_aload_n X 0 dX10_next_181 rfl rfl ?_
      refine g_iload_n X 1 dX10_next_182 rfl rfl ?_
      refine g_iconst X (v := 4) dX10_next_183 (by decide) ?_
      refine g_icmp_ge X (tgt := 212) dX10_next_184 (by decide) (fun c184 => ?_) (fun c184 => ?_)
      · have hf := it c184 hf
        refine g_aload_n X 0 dX10_next_212 rfl rfl ?_
        refine g_getJ X 63 9 24 dX10_next_213 (sgN (by decide)) rfl (by decide) rfl iw_X10 (by decide) rfl q_fl_X10_176 ?_
        exact w_X10_next_216 X hret ih v2 (m175.2 63 24) m175 hf
      · have hf := ie c184 hf
        refine g_ldc2 X dX10_next_187 q_cl_X10_117 ?_
        refine g_aload_n X 0 dX10_next_190 rfl rfl ?_
        refine g_getJ X 63 9 24 dX10_next_191 (sgN (by decide)) rfl (by decide) rfl iw_X10 (by decide) rfl q_fl_X10_176 ?_
        refine g_lmul X dX10_next_194 ?_
        refine g_aload_n X 0 dX10_next_195 rfl rfl ?_
        refine g_aload_n X 0 dX10_next_196 rfl rfl ?_
        refine g_getI X 63 9 21 dX10_next_197 (sgN (by decide)) rfl (by decide) rfl iw_X10 (by decide) rfl q_fl_X10_156 ?_
        obtain ⟨r200, m200, h200, hf⟩ := bi_i hf
        refine g_eVI X 63 9 [.int (m175.1 63 21)] kV_X10_159 (c_X10_byteAt h200) dX10_next_200 rfl rfl (sgN (by decide)) rfl (by decide) rfl rfl ⟨(Nat.le_of_ble_eq_true rfl), (Nat.le_of_ble_eq_true rfl)⟩ ⟨rfl, rfl⟩ ⟨(Nat.zero_le _), (Nat.zero_le _)⟩ (Nat.le_of_ble_eq_true rfl) ?_
        refine g_i2l X dX10_next_203 ?_
        refine g_ladd X dX10_next_204 ?_
        refine g_ldc2 X dX10_next_205 q_cl_X10_172 ?_
        refine g_lsub X dX10_next_208 ?_
        refine g_goto X (tgt := 216) dX10_next_209 (by decide) ?_
        exact w_X10_next_216 X hret ih v2 ((((10 : Int64) * (m175.2 63 24)) + r200.toInt64) - (48 : Int64)) m200 hf
set_option maxRecDepth 100000 in
set_option maxHeartbeats 4000000 in
theorem w_X10_next_100 {Γ : Ga} {b : Nat} {ad : Nat → Nat} {nt : Nat} {z : Nat → Nat} {m9 : Mem} (X : Cx Γ b cX10_next 3 RX10 (none) rmX10_next) (hret : ∀ (pc : Nat) (lv : List (Nat × Value)), decode cX10_next pc = .ok (.return_, 1) → Go Γ b (sg ad nt z) 0 0 pc lv [] m9) : ∀ (n : Nat) (m0 : Mem), X10_next_100 n m0 = some m9 → Go Γ b (sg ad nt z) 0 0 100 [(0, .ref (ad 63))] [] m0 := by
  intro n
  induction n with
  | zero =>
    intro m0 hf
    cases hf
  | succ n ih =>
    intro m0 hf
    refine g_aload_n X 0 dX10_next_100 rfl rfl ?_
    refine g_aload_n X 0 dX10_next_101 rfl rfl ?_
    refine g_getI X 63 9 21 dX10_next_102 (sgN (by decide)) rfl (by decide) rfl iw_X10 (by decide) rfl q_fl_X10_156 ?_
    obtain ⟨r105, m105, h105, hf⟩ := bi_i hf
    refine g_eVI X 63 9 [.int (m0.1 63 21)] kV_X10_159 (c_X10_byteAt h105) dX10_next_105 rfl rfl (sgN (by decide)) rfl (by decide) rfl rfl ⟨(Nat.le_of_ble_eq_true rfl), (Nat.le_of_ble_eq_true rfl)⟩ ⟨rfl, rfl⟩ ⟨(Nat.zero_le _), (Nat.zero_le _)⟩ (Nat.le_of_ble_eq_true rfl) ?_
    refine g_i2l X dX10_next_108 ?_
    refine g_ldc2 X dX10_next_109 q_cl_X10_168 ?_
    refine g_ldc2 X dX10_next_112 q_cl_X10_170 ?_
    obtain ⟨r115, m115, h115, hf⟩ := bi_i hf
    refine g_eSI X [.long r105.toInt64, .long (97 : Int64), .long (122 : Int64)] kS_X10_76 (c_X10_in h115) dX10_next_115 rfl rfl ⟨(Nat.le_of_ble_eq_true rfl), (Nat.le_of_ble_eq_true rfl)⟩ ⟨rfl, rfl⟩ ⟨(Nat.zero_le _), (Nat.zero_le _)⟩ (Nat.le_of_ble_eq_true rfl) ?_
    refine g_if_eq X (tgt := 321) dX10_next_118 (by decide) (fun c118 => ?_) (fun c118 => ?_)
    · have hf := it c118 hf
      obtain rfl := lf1 hf
      exact hret 321 _ dX10_next_321
    · have hf := ie c118 hf
      refine g_aload_n X 0 dX10_next_121 rfl rfl ?_
      refine g_dup X dX10_next_122 rfl ?_
      refine g_getI X 63 9 21 dX10_next_123 (sgN (by decide)) rfl (by decide) rfl iw_X10 (by decide) rfl q_fl_X10_156 ?_
      refine g_iconst X (v := 1) dX10_next_126 (by decide) ?_
      refine g_iadd X dX10_next_127 ?_
      refine g_putI X (tyf := tyX10) 63 9 21 dX10_next_128 (sgN (by decide)) rfl (by decide) rfl iw_X10 (by decide) rfl q_fl_X10_156 tyX10_ok nmX10 rfl rfl rfl ?_
      refine g_goto X (tgt := 100) dX10_next_131 (by decide) ?_
      exact ih (pI m115 63 21 ((m115.1 63 21) + (1 : Int32))) hf
set_option maxRecDepth 100000 in
set_option maxHeartbeats 4000000 in
theorem w_X10_next_0 {Γ : Ga} {b : Nat} {ad : Nat → Nat} {nt : Nat} {z : Nat → Nat} {m9 : Mem} (X : Cx Γ b cX10_next 3 RX10 (none) rmX10_next) (hret : ∀ (pc : Nat) (lv : List (Nat × Value)), decode cX10_next pc = .ok (.return_, 1) → Go Γ b (sg ad nt z) 0 0 pc lv [] m9) : ∀ (n : Nat) (m0 : Mem), X10_next_0 n m0 = some m9 → Go Γ b (sg ad nt z) 0 0 0 [(0, .ref (ad 63))] [] m0 := by
  intro n
  induction n with
  | zero =>
    intro m0 hf
    cases hf
  | succ n ih =>
    intro m0 hf
    refine g_aload_n X 0 dX10_next_0 rfl rfl ?_
    refine g_aload_n X 0 dX10_next_1 rfl rfl ?_
    refine g_getI X 63 9 21 dX10_next_2 (sgN (by decide)) rfl (by decide) rfl iw_X10 (by decide) rfl q_fl_X10_156 ?_
    obtain ⟨r5, m5, h5, hf⟩ := bi_i hf
    refine g_eVI X 63 9 [.int (m0.1 63 21)] kV_X10_159 (c_X10_byteAt h5) dX10_next_5 rfl rfl (sgN (by decide)) rfl (by decide) rfl rfl ⟨(Nat.le_of_ble_eq_true rfl), (Nat.le_of_ble_eq_true rfl)⟩ ⟨rfl, rfl⟩ ⟨(Nat.zero_le _), (Nat.zero_le _)⟩ (Nat.le_of_ble_eq_true rfl) ?_
    refine g_bipush X (v := 32) dX10_next_8 (by decide) ?_
    refine g_icmp_eq X (tgt := 26) dX10_next_10 (by decide) (fun c10 => ?_) (fun c10 => ?_)
    · have hf := it c10 hf
      exact w_X10_next_26 X hret ih m5 hf
    · have hf := ie c10 hf
      refine g_aload_n X 0 dX10_next_13 rfl rfl ?_
      refine g_aload_n X 0 dX10_next_14 rfl rfl ?_
      refine g_getI X 63 9 21 dX10_next_15 (sgN (by decide)) rfl (by decide) rfl iw_X10 (by decide) rfl q_fl_X10_156 ?_
      obtain ⟨r18, m18, h18, hf⟩ := bi_i hf
      refine g_eVI X 63 9 [.int (m5.1 63 21)] kV_X10_159 (c_X10_byteAt h18) dX10_next_18 rfl rfl (sgN (by decide)) rfl (by decide) rfl rfl ⟨(Nat.le_of_ble_eq_true rfl), (Nat.le_of_ble_eq_true rfl)⟩ ⟨rfl, rfl⟩ ⟨(Nat.zero_le _), (Nat.zero_le _)⟩ (Nat.le_of_ble_eq_true rfl) ?_
      refine g_bipush X (v := 10) dX10_next_21 (by decide) ?_
      refine g_icmp_ne X (tgt := 39) dX10_next_23 (by decide) (fun c23 => ?_) (fun c23 => ?_)
      · have hf := ie c23 hf
        refine g_aload_n X 0 dX10_next_39 rfl rfl ?_
        refine g_aload_n X 0 dX10_next_40 rfl rfl ?_
        refine g_getI X 63 9 21 dX10_next_41 (sgN (by decide)) rfl (by decide) rfl iw_X10 (by decide) rfl q_fl_X10_156 ?_
        refine g_putI X (tyf := tyX10) 63 9 23 dX10_next_44 (sgN (by decide)) rfl (by decide) rfl iw_X10 (by decide) rfl q_fl_X10_162 tyX10_ok nmX10 rfl rfl rfl ?_
        refine g_aload_n X 0 dX10_next_47 rfl rfl ?_
        refine g_aload_n X 0 dX10_next_48 rfl rfl ?_
        refine g_getI X 63 9 21 dX10_next_49 (sgN (by decide)) rfl (by decide) rfl iw_X10 (by decide) rfl q_fl_X10_156 ?_
        obtain ⟨r52, m52, h52, hf⟩ := bi_i hf
        refine g_eVI X 63 9 [.int ((pI m18 63 23 (m18.1 63 21)).1 63 21)] kV_X10_159 (c_X10_byteAt h52) dX10_next_52 rfl rfl (sgN (by decide)) rfl (by decide) rfl rfl ⟨(Nat.le_of_ble_eq_true rfl), (Nat.le_of_ble_eq_true rfl)⟩ ⟨rfl, rfl⟩ ⟨(Nat.zero_le _), (Nat.zero_le _)⟩ (Nat.le_of_ble_eq_true rfl) ?_
        refine g_istore_n X (lv' := [(1, .int r52), (0, .ref (ad 63))]) dX10_next_55 rfl (by decide) rfl ?_
        refine g_aload_n X 1 dX10_next_56 rfl rfl ?_
        refine g_iconst X (v := 4) dX10_next_57 (by decide) ?_
        refine g_putI X (tyf := tyX10) 63 9 22 dX10_next_58 (sgN (by decide)) rfl (by decide) rfl iw_X10 (by decide) rfl q_fl_X10_165 tyX10_ok nmX10 rfl rfl rfl ?_
        refine g_iload_n X 0 dX10_next_61 rfl rfl ?_
        refine g_if_ge X (tgt := 81) dX10_next_62 (by decide) (fun c62 => ?_) (fun c62 => ?_)
        · have hf := it c62 hf
          refine g_iload_n X 0 dX10_next_81 rfl rfl ?_
          refine g_i2l X dX10_next_82 ?_
          refine g_ldc2 X dX10_next_83 q_cl_X10_168 ?_
          refine g_ldc2 X dX10_next_86 q_cl_X10_170 ?_
          obtain ⟨r89, m89, h89, hf⟩ := bi_i hf
          refine g_eSI X [.long r52.toInt64, .long (97 : Int64), .long (122 : Int64)] kS_X10_76 (c_X10_in h89) dX10_next_89 rfl rfl ⟨(Nat.le_of_ble_eq_true rfl), (Nat.le_of_ble_eq_true rfl)⟩ ⟨rfl, rfl⟩ ⟨(Nat.zero_le _), (Nat.zero_le _)⟩ (Nat.le_of_ble_eq_true rfl) ?_
          refine g_if_eq X (tgt := 134) dX10_next_92 (by decide) (fun c92 => ?_) (fun c92 => ?_)
          · have hf := it c92 hf
            refine g_iload_n X 0 dX10_next_134 rfl rfl ?_
            refine g_i2l X dX10_next_135 ?_
            refine g_ldc2 X dX10_next_136 q_cl_X10_172 ?_
            refine g_ldc2 X dX10_next_139 q_cl_X10_174 ?_
            obtain ⟨r142, m142, h142, hf⟩ := bi_i hf
            refine g_eSI X [.long r52.toInt64, .long (48 : Int64), .long (57 : Int64)] kS_X10_76 (c_X10_in h142) dX10_next_142 rfl rfl ⟨(Nat.le_of_ble_eq_true rfl), (Nat.le_of_ble_eq_true rfl)⟩ ⟨rfl, rfl⟩ ⟨(Nat.zero_le _), (Nat.zero_le _)⟩ (Nat.le_of_ble_eq_true rfl) ?_
            refine g_if_eq X (tgt := 252) dX10_next_145 (by decide) (fun c145 => ?_) (fun c145 => ?_)
            · have hf := it c145 hf
              refine g_iload_n X 0 dX10_next_252 rfl rfl ?_
              refine g_bipush X (v := 40) dX10_next_253 (by decide) ?_
              refine g_icmp_eq X (tgt := 300) dX10_next_255 (by decide) (fun c255 => ?_) (fun c255 => ?_)
              · have hf := it c255 hf
                refine g_pick [1, 0] (lv' := [(0, .ref (ad 63)), (1, .int r52)]) rfl ?_
                exact w_X10_next_300 X hret r52 m142 hf
              · have hf := ie c255 hf
                refine g_iload_n X 0 dX10_next_258 rfl rfl ?_
                refine g_bipush X (v := 41) dX10_next_259 (by decide) ?_
                refine g_icmp_eq X (tgt := 300) dX10_next_261 (by decide) (fun c261 => ?_) (fun c261 => ?_)
                · have hf := it c261 hf
                  refine g_pick [1, 0] (lv' := [(0, .ref (ad 63)), (1, .int r52)]) rfl ?_
                  exact w_X10_next_300 X hret r52 m142 hf
                · have hf := ie c261 hf
                  refine g_iload_n X 0 dX10_next_264 rfl rfl ?_
                  refine g_bipush X (v := 59) dX10_next_265 (by decide) ?_
                  refine g_icmp_eq X (tgt := 300) dX10_next_267 (by decide) (fun c267 => ?_) (fun c267 => ?_)
                  · have hf := it c267 hf
                    refine g_pick [1, 0] (lv' := [(0, .ref (ad 63)), (1, .int r52)]) rfl ?_
                    exact w_X10_next_300 X hret r52 m142 hf
                  · have hf := ie c267 hf
                    refine g_iload_n X 0 dX10_next_270 rfl rfl ?_
                    refine g_bipush X (v := 43) dX10_next_271 (by decide) ?_
                    refine g_icmp_eq X (tgt := 300) dX10_next_273 (by decide) (fun c273 => ?_) (fun c273 => ?_)
                    · have hf := it c273 hf
                      refine g_pick [1, 0] (lv' := [(0, .ref (ad 63)), (1, .int r52)]) rfl ?_
                      exact w_X10_next_300 X hret r52 m142 hf
                    · have hf := ie c273 hf
                      refine g_iload_n X 0 dX10_next_276 rfl rfl ?_
                      refine g_bipush X (v := 45) dX10_next_277 (by decide) ?_
                      refine g_icmp_eq X (tgt := 300) dX10_next_279 (by decide) (fun c279 => ?_) (fun c279 => ?_)
                      · have hf := it c279 hf
                        refine g_pick [1, 0] (lv' := [(0, .ref (ad 63)), (1, .int r52)]) rfl ?_
                        exact w_X10_next_300 X hret r52 m142 hf
                      · have hf := ie c279 hf
                        refine g_iload_n X 0 dX10_next_282 rfl rfl ?_
                        refine g_bipush X (v := 42) dX10_next_283 (by decide) ?_
                        refine g_icmp_eq X (tgt := 300) dX10_next_285 (by decide) (fun c285 => ?_) (fun c285 => ?_)
                        · have hf := it c285 hf
                          refine g_pick [1, 0] (lv' := [(0, .ref (ad 63)), (1, .int r52)]) rfl ?_
                          exact w_X10_next_300 X hret r52 m142 hf
                        · have hf := ie c285 hf
                          refine g_iload_n X 0 dX10_next_288 rfl rfl ?_
                          refine g_bipush X (v := 60) dX10_next_289 (by decide) ?_
                          refine g_icmp_eq X (tgt := 300) dX10_next_291 (by decide) (fun c291 => ?_) (fun c291 => ?_)
                          · have hf := it c291 hf
                            refine g_pick [1, 0] (lv' := [(0, .ref (ad 63)), (1, .int r52)]) rfl ?_
                            exact w_X10_next_300 X hret r52 m142 hf
                          · have hf := ie c291 hf
                            refine g_iload_n X 0 dX10_next_294 rfl rfl ?_
                            refine g_bipush X (v := 61) dX10_next_295 (by decide) ?_
                            refine g_icmp_ne X (tgt := 321) dX10_next_297 (by decide) (fun c297 => ?_) (fun c297 => ?_)
                            · have hf := ie c297 hf
                              obtain rfl := lf1 hf
                              exact hret 321 _ dX10_next_321
                            · have hf := it c297 hf
                              refine g_pick [1, 0] (lv' := [(0, .ref (ad 63)), (1, .int r52)]) rfl ?_
                              exact w_X10_next_300 X hret r52 m142 hf
            · have hf := ie c145 hf
              refine g_aload_n X 1 dX10_next_148 rfl rfl ?_
              refine g_iconst X (v := 2) dX10_next_149 (by decide) ?_
              refine g_putI X (tyf := tyX10) 63 9 22 dX10_next_150 (sgN (by decide)) rfl (by decide) rfl iw_X10 (by decide) rfl q_fl_X10_165 tyX10_ok nmX10 rfl rfl rfl ?_
              refine g_aload_n X 1 dX10_next_153 rfl rfl ?_
              refine g_lconst X (v := 0) dX10_next_154 (by decide) ?_
              refine g_putJ X (tyf := tyX10) 63 9 24 dX10_next_155 (sgN (by decide)) rfl (by decide) rfl iw_X10 (by decide) rfl q_fl_X10_176 tyX10_ok nmX10 rfl rfl rfl ?_
              refine g_iconst X (v := 0) dX10_next_158 (by decide) ?_
              refine g_istore_n X (lv' := [(2, .int (0 : Int32)), (1, .int r52), (0, .ref (ad 63))]) dX10_next_159 rfl (by decide) rfl ?_
              refine g_pick [2, 0] (lv' := [(0, .ref (ad 63)), (2, .int (0 : Int32))]) rfl ?_
              exact w_X10_next_160 X hret 10000 (0 : Int32) (pJ (pI m142 63 22 (2 : Int32)) 63 24 (0 : Int64)) hf
          · have hf := ie c92 hf
            refine g_aload_n X 1 dX10_next_95 rfl rfl ?_
            refine g_iconst X (v := 1) dX10_next_96 (by decide) ?_
            refine g_putI X (tyf := tyX10) 63 9 22 dX10_next_97 (sgN (by decide)) rfl (by decide) rfl iw_X10 (by decide) rfl q_fl_X10_165 tyX10_ok nmX10 rfl rfl rfl ?_
            refine g_pick [1] (lv' := [(0, .ref (ad 63))]) rfl ?_
            exact w_X10_next_100 X hret 10000 (pI m89 63 22 (1 : Int32)) hf
        · have hf := ie c62 hf
          refine g_aload_n X 1 dX10_next_65 rfl rfl ?_
          refine g_iconst X (v := 0) dX10_next_66 (by decide) ?_
          refine g_putI X (tyf := tyX10) 63 9 22 dX10_next_67 (sgN (by decide)) rfl (by decide) rfl iw_X10 (by decide) rfl q_fl_X10_165 tyX10_ok nmX10 rfl rfl rfl ?_
          refine g_aload_n X 1 dX10_next_70 rfl rfl ?_
          refine g_aload_n X 1 dX10_next_71 rfl rfl ?_
          refine g_getI X 63 9 20 dX10_next_72 (sgN (by decide)) rfl (by decide) rfl iw_X10 (by decide) rfl q_fl_X10_150 ?_
          refine g_putI X (tyf := tyX10) 63 9 23 dX10_next_75 (sgN (by decide)) rfl (by decide) rfl iw_X10 (by decide) rfl q_fl_X10_162 tyX10_ok nmX10 rfl rfl rfl ?_
          refine g_goto X (tgt := 321) dX10_next_78 (by decide) ?_
          obtain rfl := lf1 hf
          exact hret 321 _ dX10_next_321
      · have hf := it c23 hf
        exact w_X10_next_26 X hret ih m18 hf
set_option maxRecDepth 100000 in
set_option maxHeartbeats 4000000 in
theorem c_X10_next {l : Launch} {G : GG} {b : Nat} {ad : Nat → Nat} {nt : Nat} {z : Nat → Nat} {m0 : Mem} {m9 : Mem} (hf : X10_next m0 = some m9) : MtV l yX10_next cX10_next 3 (none) rmX10_next G b (sg ad nt z) m0 [.ref (ad 63)] (pEV (sg ad nt z) m9) := by
  refine mtV_of (by decide) (Nat.le_of_ble_eq_true rfl) rfl (fun Γ hG X hnm hr => ?_)
  have hret : ∀ (pc : Nat) (lv : List (Nat × Value)), decode cX10_next pc = .ok (.return_, 1) → Go Γ b (sg ad nt z) 0 0 pc lv [] m9 := fun pc lv d => hr pc lv _ _ d ⟨rfl, rfl⟩
  show Go Γ b (sg ad nt z) 0 0 0 [(0, .ref (ad 63))] [] m0
  exact w_X10_next_0 X hret 10000 m0 hf

def X10_isLetter (p0 : Int32) (p1 : Int32) (m0 : Mem) : Option (Int32 × Mem) :=
  if (m0.1 63 21) ≤ ((m0.1 63 23) + p0) then
    if p1 = 0 then
      some ((1 : Int32), m0)
    else
      some ((0 : Int32), m0)
  else
    bi (X10_byteAt ((m0.1 63 23) + p0) m0) fun r20 m20 =>
    if r20 = p1 then
      some ((1 : Int32), m20)
    else
      some ((0 : Int32), m20)
abbrev rmX10_isLetter : Room := { frames := 1, cells := 0, slots := 0, locals := 21 }

set_option maxRecDepth 100000 in
set_option maxHeartbeats 4000000 in
theorem c_X10_isLetter {l : Launch} {G : GG} {b : Nat} {ad : Nat → Nat} {nt : Nat} {z : Nat → Nat} {p0 : Int32} {p1 : Int32} {m0 : Mem} {r9 : Int32} {m9 : Mem} (hf : X10_isLetter p0 p1 m0 = some (r9, m9)) : MtI l yX10_isLetter cX10_isLetter 3 (some .boolean) rmX10_isLetter G b (sg ad nt z) m0 [.ref (ad 63), .int p0, .int p1] (pEI r9 (sg ad nt z) m9) := by
  refine mtI_of (by decide) (Nat.le_of_ble_eq_true rfl) .boolean rfl (fun Γ hG X hnm hr => ?_)
  have hret : ∀ (pc : Nat) (lv : List (Nat × Value)), decode cX10_isLetter pc = .ok (.ireturn, 1) → narrow .boolean (.int r9) = .int r9 → Go Γ b (sg ad nt z) 0 0 pc lv [.int r9] m9 := fun pc lv d hn => hr pc lv _ _ _ d ⟨rfl, rfl, rfl⟩ hn
  show Go Γ b (sg ad nt z) 0 0 0 [(0, .ref (ad 63)), (1, .int p0), (2, .int p1)] [] m0
  refine g_aload_n X 0 dX10_isLetter_0 rfl rfl ?_
  refine g_getI X 63 9 23 dX10_isLetter_1 (sgN (by decide)) rfl (by decide) rfl iw_X10 (by decide) rfl q_fl_X10_162 ?_
  refine g_iload_n X 1 dX10_isLetter_4 rfl rfl ?_
  refine g_iadd X dX10_isLetter_5 ?_
  refine g_aload_n X 0 dX10_isLetter_6 rfl rfl ?_
  refine g_getI X 63 9 21 dX10_isLetter_7 (sgN (by decide)) rfl (by decide) rfl iw_X10 (by decide) rfl q_fl_X10_156 ?_
  refine g_icmp_ge X (tgt := 35) dX10_isLetter_10 (by decide) (fun c10 => ?_) (fun c10 => ?_)
  · have hf := it c10 hf
    refine g_iload_n X 2 dX10_isLetter_35 rfl rfl ?_
    refine g_if_ne X (tgt := 43) dX10_isLetter_36 (by decide) (fun c36 => ?_) (fun c36 => ?_)
    · have hf := ie c36 hf
      refine g_iconst X (v := 0) dX10_isLetter_43 (by decide) ?_
      obtain ⟨rfl, rfl⟩ := lf2 hf
      exact hret 44 _ dX10_isLetter_44 rfl
    · have hf := it c36 hf
      refine g_iconst X (v := 1) dX10_isLetter_39 (by decide) ?_
      refine g_goto X (tgt := 44) dX10_isLetter_40 (by decide) ?_
      obtain ⟨rfl, rfl⟩ := lf2 hf
      exact hret 44 _ dX10_isLetter_44 rfl
  · have hf := ie c10 hf
    refine g_aload_n X 0 dX10_isLetter_13 rfl rfl ?_
    refine g_aload_n X 0 dX10_isLetter_14 rfl rfl ?_
    refine g_getI X 63 9 23 dX10_isLetter_15 (sgN (by decide)) rfl (by decide) rfl iw_X10 (by decide) rfl q_fl_X10_162 ?_
    refine g_iload_n X 1 dX10_isLetter_18 rfl rfl ?_
    refine g_iadd X dX10_isLetter_19 ?_
    obtain ⟨r20, m20, h20, hf⟩ := bi_i hf
    refine g_eVI X 63 9 [.int ((m0.1 63 23) + p0)] kV_X10_159 (c_X10_byteAt h20) dX10_isLetter_20 rfl rfl (sgN (by decide)) rfl (by decide) rfl rfl ⟨(Nat.le_of_ble_eq_true rfl), (Nat.le_of_ble_eq_true rfl)⟩ ⟨rfl, rfl⟩ ⟨(Nat.zero_le _), (Nat.zero_le _)⟩ (Nat.le_of_ble_eq_true rfl) ?_
    refine g_iload_n X 2 dX10_isLetter_23 rfl rfl ?_
    refine g_icmp_ne X (tgt := 31) dX10_isLetter_24 (by decide) (fun c24 => ?_) (fun c24 => ?_)
    · have hf := ie c24 hf
      refine g_iconst X (v := 0) dX10_isLetter_31 (by decide) ?_
      refine g_goto X (tgt := 44) dX10_isLetter_32 (by decide) ?_
      obtain ⟨rfl, rfl⟩ := lf2 hf
      exact hret 44 _ dX10_isLetter_44 rfl
    · have hf := it c24 hf
      refine g_iconst X (v := 1) dX10_isLetter_27 (by decide) ?_
      refine g_goto X (tgt := 44) dX10_isLetter_28 (by decide) ?_
      obtain ⟨rfl, rfl⟩ := lf2 hf
      exact hret 44 _ dX10_isLetter_44 rfl

theorem kV_X10_187 : wcV RX10 187 RX10 yX10_isLetter cX10_isLetter 3 (some .boolean) 2 := ⟨q_ml_X10_187, q_im_yX10_isLetter, q_se_yX10_isLetter, q_in_X10, q_co_yX10_isLetter, by decide +kernel⟩

def X10_isWord (p0 : Int32) (p1 : Int32) (p2 : Int32) (p3 : Int32) (p4 : Int32) (p5 : Int32) (p6 : Int32) (p7 : Int32) (m0 : Mem) : Option (Int32 × Mem) :=
  if (m0.1 63 26) = 0 then
    if (m0.1 63 22) = (1 : Int32) then
      if ((m0.1 63 23) + (8 : Int32)) < (m0.1 63 21) then
        some ((0 : Int32), m0)
      else
        bi (X10_isLetter (0 : Int32) p0 m0) fun r32 m32 =>
        if r32 = 0 then
          some ((0 : Int32), m32)
        else
          bi (X10_isLetter (1 : Int32) p1 m32) fun r41 m41 =>
          if r41 = 0 then
            some ((0 : Int32), m41)
          else
            bi (X10_isLetter (2 : Int32) p2 m41) fun r50 m50 =>
            if r50 = 0 then
              some ((0 : Int32), m50)
            else
              bi (X10_isLetter (3 : Int32) p3 m50) fun r60 m60 =>
              if r60 = 0 then
                some ((0 : Int32), m60)
              else
                bi (X10_isLetter (4 : Int32) p4 m60) fun r70 m70 =>
                if r70 = 0 then
                  some ((0 : Int32), m70)
                else
                  bi (X10_isLetter (5 : Int32) p5 m70) fun r80 m80 =>
                  if r80 = 0 then
                    some ((0 : Int32), m80)
                  else
                    bi (X10_isLetter (6 : Int32) p6 m80) fun r91 m91 =>
                    if r91 = 0 then
                      some ((0 : Int32), m91)
                    else
                      bi (X10_isLetter (7 : Int32) p7 m91) fun r102 m102 =>
                      if r102 = 0 then
                        some ((0 : Int32), m102)
                      else
                        some ((1 : Int32), m102)
    else
      some ((0 : Int32), m0)
  else
    some ((0 : Int32), m0)
abbrev rmX10_isWord : Room := { frames := 2, cells := 0, slots := 0, locals := 43 }

set_option maxRecDepth 100000 in
set_option maxHeartbeats 4000000 in
theorem c_X10_isWord {l : Launch} {G : GG} {b : Nat} {ad : Nat → Nat} {nt : Nat} {z : Nat → Nat} {p0 : Int32} {p1 : Int32} {p2 : Int32} {p3 : Int32} {p4 : Int32} {p5 : Int32} {p6 : Int32} {p7 : Int32} {m0 : Mem} {r9 : Int32} {m9 : Mem} (hf : X10_isWord p0 p1 p2 p3 p4 p5 p6 p7 m0 = some (r9, m9)) : MtI l yX10_isWord cX10_isWord 9 (some .boolean) rmX10_isWord G b (sg ad nt z) m0 [.ref (ad 63), .int p0, .int p1, .int p2, .int p3, .int p4, .int p5, .int p6, .int p7] (pEI r9 (sg ad nt z) m9) := by
  refine mtI_of (by decide) (Nat.le_of_ble_eq_true rfl) .boolean rfl (fun Γ hG X hnm hr => ?_)
  have hret : ∀ (pc : Nat) (lv : List (Nat × Value)), decode cX10_isWord pc = .ok (.ireturn, 1) → narrow .boolean (.int r9) = .int r9 → Go Γ b (sg ad nt z) 0 0 pc lv [.int r9] m9 := fun pc lv d hn => hr pc lv _ _ _ d ⟨rfl, rfl, rfl⟩ hn
  show Go Γ b (sg ad nt z) 0 0 0 [(0, .ref (ad 63)), (1, .int p0), (2, .int p1), (3, .int p2), (4, .int p3), (5, .int p4), (6, .int p5), (7, .int p6), (8, .int p7)] [] m0
  refine g_aload_n X 0 dX10_isWord_0 rfl rfl ?_
  refine g_getI X 63 9 26 dX10_isWord_1 (sgN (by decide)) rfl (by decide) rfl iw_X10 (by decide) rfl q_fl_X10_180 ?_
  refine g_if_ne X (tgt := 112) dX10_isWord_4 (by decide) (fun c4 => ?_) (fun c4 => ?_)
  · have hf := ie c4 hf
    refine g_iconst X (v := 0) dX10_isWord_112 (by decide) ?_
    obtain ⟨rfl, rfl⟩ := lf2 hf
    exact hret 113 _ dX10_isWord_113 rfl
  · have hf := it c4 hf
    refine g_aload_n X 0 dX10_isWord_7 rfl rfl ?_
    refine g_getI X 63 9 22 dX10_isWord_8 (sgN (by decide)) rfl (by decide) rfl iw_X10 (by decide) rfl q_fl_X10_165 ?_
    refine g_iconst X (v := 1) dX10_isWord_11 (by decide) ?_
    refine g_icmp_ne X (tgt := 112) dX10_isWord_12 (by decide) (fun c12 => ?_) (fun c12 => ?_)
    · have hf := ie c12 hf
      refine g_iconst X (v := 0) dX10_isWord_112 (by decide) ?_
      obtain ⟨rfl, rfl⟩ := lf2 hf
      exact hret 113 _ dX10_isWord_113 rfl
    · have hf := it c12 hf
      refine g_aload_n X 0 dX10_isWord_15 rfl rfl ?_
      refine g_getI X 63 9 21 dX10_isWord_16 (sgN (by decide)) rfl (by decide) rfl iw_X10 (by decide) rfl q_fl_X10_156 ?_
      refine g_aload_n X 0 dX10_isWord_19 rfl rfl ?_
      refine g_getI X 63 9 23 dX10_isWord_20 (sgN (by decide)) rfl (by decide) rfl iw_X10 (by decide) rfl q_fl_X10_162 ?_
      refine g_bipush X (v := 8) dX10_isWord_23 (by decide) ?_
      refine g_iadd X dX10_isWord_25 ?_
      refine g_icmp_gt X (tgt := 112) dX10_isWord_26 (by decide) (fun c26 => ?_) (fun c26 => ?_)
      · have hf := it c26 hf
        refine g_iconst X (v := 0) dX10_isWord_112 (by decide) ?_
        obtain ⟨rfl, rfl⟩ := lf2 hf
        exact hret 113 _ dX10_isWord_113 rfl
      · have hf := ie c26 hf
        refine g_aload_n X 0 dX10_isWord_29 rfl rfl ?_
        refine g_iconst X (v := 0) dX10_isWord_30 (by decide) ?_
        refine g_iload_n X 1 dX10_isWord_31 rfl rfl ?_
        obtain ⟨r32, m32, h32, hf⟩ := bi_i hf
        refine g_eVI X 63 9 [.int (0 : Int32), .int p0] kV_X10_187 (c_X10_isLetter h32) dX10_isWord_32 rfl rfl (sgN (by decide)) rfl (by decide) rfl rfl ⟨(Nat.le_of_ble_eq_true rfl), (Nat.le_of_ble_eq_true rfl)⟩ ⟨rfl, rfl⟩ ⟨(Nat.zero_le _), (Nat.zero_le _)⟩ (Nat.le_of_ble_eq_true rfl) ?_
        refine g_if_eq X (tgt := 112) dX10_isWord_35 (by decide) (fun c35 => ?_) (fun c35 => ?_)
        · have hf := it c35 hf
          refine g_iconst X (v := 0) dX10_isWord_112 (by decide) ?_
          obtain ⟨rfl, rfl⟩ := lf2 hf
          exact hret 113 _ dX10_isWord_113 rfl
        · have hf := ie c35 hf
          refine g_aload_n X 0 dX10_isWord_38 rfl rfl ?_
          refine g_iconst X (v := 1) dX10_isWord_39 (by decide) ?_
          refine g_iload_n X 2 dX10_isWord_40 rfl rfl ?_
          obtain ⟨r41, m41, h41, hf⟩ := bi_i hf
          refine g_eVI X 63 9 [.int (1 : Int32), .int p1] kV_X10_187 (c_X10_isLetter h41) dX10_isWord_41 rfl rfl (sgN (by decide)) rfl (by decide) rfl rfl ⟨(Nat.le_of_ble_eq_true rfl), (Nat.le_of_ble_eq_true rfl)⟩ ⟨rfl, rfl⟩ ⟨(Nat.zero_le _), (Nat.zero_le _)⟩ (Nat.le_of_ble_eq_true rfl) ?_
          refine g_if_eq X (tgt := 112) dX10_isWord_44 (by decide) (fun c44 => ?_) (fun c44 => ?_)
          · have hf := it c44 hf
            refine g_iconst X (v := 0) dX10_isWord_112 (by decide) ?_
            obtain ⟨rfl, rfl⟩ := lf2 hf
            exact hret 113 _ dX10_isWord_113 rfl
          · have hf := ie c44 hf
            refine g_aload_n X 0 dX10_isWord_47 rfl rfl ?_
            refine g_iconst X (v := 2) dX10_isWord_48 (by decide) ?_
            refine g_iload_n X 3 dX10_isWord_49 rfl rfl ?_
            obtain ⟨r50, m50, h50, hf⟩ := bi_i hf
            refine g_eVI X 63 9 [.int (2 : Int32), .int p2] kV_X10_187 (c_X10_isLetter h50) dX10_isWord_50 rfl rfl (sgN (by decide)) rfl (by decide) rfl rfl ⟨(Nat.le_of_ble_eq_true rfl), (Nat.le_of_ble_eq_true rfl)⟩ ⟨rfl, rfl⟩ ⟨(Nat.zero_le _), (Nat.zero_le _)⟩ (Nat.le_of_ble_eq_true rfl) ?_
            refine g_if_eq X (tgt := 112) dX10_isWord_53 (by decide) (fun c53 => ?_) (fun c53 => ?_)
            · have hf := it c53 hf
              refine g_iconst X (v := 0) dX10_isWord_112 (by decide) ?_
              obtain ⟨rfl, rfl⟩ := lf2 hf
              exact hret 113 _ dX10_isWord_113 rfl
            · have hf := ie c53 hf
              refine g_aload_n X 0 dX10_isWord_56 rfl rfl ?_
              refine g_iconst X (v := 3) dX10_isWord_57 (by decide) ?_
              refine g_iload X 4 dX10_isWord_58 rfl ?_
              obtain ⟨r60, m60, h60, hf⟩ := bi_i hf
              refine g_eVI X 63 9 [.int (3 : Int32), .int p3] kV_X10_187 (c_X10_isLetter h60) dX10_isWord_60 rfl rfl (sgN (by decide)) rfl (by decide) rfl rfl ⟨(Nat.le_of_ble_eq_true rfl), (Nat.le_of_ble_eq_true rfl)⟩ ⟨rfl, rfl⟩ ⟨(Nat.zero_le _), (Nat.zero_le _)⟩ (Nat.le_of_ble_eq_true rfl) ?_
              refine g_if_eq X (tgt := 112) dX10_isWord_63 (by decide) (fun c63 => ?_) (fun c63 => ?_)
              · have hf := it c63 hf
                refine g_iconst X (v := 0) dX10_isWord_112 (by decide) ?_
                obtain ⟨rfl, rfl⟩ := lf2 hf
                exact hret 113 _ dX10_isWord_113 rfl
              · have hf := ie c63 hf
                refine g_aload_n X 0 dX10_isWord_66 rfl rfl ?_
                refine g_iconst X (v := 4) dX10_isWord_67 (by decide) ?_
                refine g_iload X 5 dX10_isWord_68 rfl ?_
                obtain ⟨r70, m70, h70, hf⟩ := bi_i hf
                refine g_eVI X 63 9 [.int (4 : Int32), .int p4] kV_X10_187 (c_X10_isLetter h70) dX10_isWord_70 rfl rfl (sgN (by decide)) rfl (by decide) rfl rfl ⟨(Nat.le_of_ble_eq_true rfl), (Nat.le_of_ble_eq_true rfl)⟩ ⟨rfl, rfl⟩ ⟨(Nat.zero_le _), (Nat.zero_le _)⟩ (Nat.le_of_ble_eq_true rfl) ?_
                refine g_if_eq X (tgt := 112) dX10_isWord_73 (by decide) (fun c73 => ?_) (fun c73 => ?_)
                · have hf := it c73 hf
                  refine g_iconst X (v := 0) dX10_isWord_112 (by decide) ?_
                  obtain ⟨rfl, rfl⟩ := lf2 hf
                  exact hret 113 _ dX10_isWord_113 rfl
                · have hf := ie c73 hf
                  refine g_aload_n X 0 dX10_isWord_76 rfl rfl ?_
                  refine g_iconst X (v := 5) dX10_isWord_77 (by decide) ?_
                  refine g_iload X 6 dX10_isWord_78 rfl ?_
                  obtain ⟨r80, m80, h80, hf⟩ := bi_i hf
                  refine g_eVI X 63 9 [.int (5 : Int32), .int p5] kV_X10_187 (c_X10_isLetter h80) dX10_isWord_80 rfl rfl (sgN (by decide)) rfl (by decide) rfl rfl ⟨(Nat.le_of_ble_eq_true rfl), (Nat.le_of_ble_eq_true rfl)⟩ ⟨rfl, rfl⟩ ⟨(Nat.zero_le _), (Nat.zero_le _)⟩ (Nat.le_of_ble_eq_true rfl) ?_
                  refine g_if_eq X (tgt := 112) dX10_isWord_83 (by decide) (fun c83 => ?_) (fun c83 => ?_)
                  · have hf := it c83 hf
                    refine g_iconst X (v := 0) dX10_isWord_112 (by decide) ?_
                    obtain ⟨rfl, rfl⟩ := lf2 hf
                    exact hret 113 _ dX10_isWord_113 rfl
                  · have hf := ie c83 hf
                    refine g_aload_n X 0 dX10_isWord_86 rfl rfl ?_
                    refine g_bipush X (v := 6) dX10_isWord_87 (by decide) ?_
                    refine g_iload X 7 dX10_isWord_89 rfl ?_
                    obtain ⟨r91, m91, h91, hf⟩ := bi_i hf
                    refine g_eVI X 63 9 [.int (6 : Int32), .int p6] kV_X10_187 (c_X10_isLetter h91) dX10_isWord_91 rfl rfl (sgN (by decide)) rfl (by decide) rfl rfl ⟨(Nat.le_of_ble_eq_true rfl), (Nat.le_of_ble_eq_true rfl)⟩ ⟨rfl, rfl⟩ ⟨(Nat.zero_le _), (Nat.zero_le _)⟩ (Nat.le_of_ble_eq_true rfl) ?_
                    refine g_if_eq X (tgt := 112) dX10_isWord_94 (by decide) (fun c94 => ?_) (fun c94 => ?_)
                    · have hf := it c94 hf
                      refine g_iconst X (v := 0) dX10_isWord_112 (by decide) ?_
                      obtain ⟨rfl, rfl⟩ := lf2 hf
                      exact hret 113 _ dX10_isWord_113 rfl
                    · have hf := ie c94 hf
                      refine g_aload_n X 0 dX10_isWord_97 rfl rfl ?_
                      refine g_bipush X (v := 7) dX10_isWord_98 (by decide) ?_
                      refine g_iload X 8 dX10_isWord_100 rfl ?_
                      obtain ⟨r102, m102, h102, hf⟩ := bi_i hf
                      refine g_eVI X 63 9 [.int (7 : Int32), .int p7] kV_X10_187 (c_X10_isLetter h102) dX10_isWord_102 rfl rfl (sgN (by decide)) rfl (by decide) rfl rfl ⟨(Nat.le_of_ble_eq_true rfl), (Nat.le_of_ble_eq_true rfl)⟩ ⟨rfl, rfl⟩ ⟨(Nat.zero_le _), (Nat.zero_le _)⟩ (Nat.le_of_ble_eq_true rfl) ?_
                      refine g_if_eq X (tgt := 112) dX10_isWord_105 (by decide) (fun c105 => ?_) (fun c105 => ?_)
                      · have hf := it c105 hf
                        refine g_iconst X (v := 0) dX10_isWord_112 (by decide) ?_
                        obtain ⟨rfl, rfl⟩ := lf2 hf
                        exact hret 113 _ dX10_isWord_113 rfl
                      · have hf := ie c105 hf
                        refine g_iconst X (v := 1) dX10_isWord_108 (by decide) ?_
                        refine g_goto X (tgt := 113) dX10_isWord_109 (by decide) ?_
                        obtain ⟨rfl, rfl⟩ := lf2 hf
                        exact hret 113 _ dX10_isWord_113 rfl

def X10_fail (m0 : Mem) : Option (Mem) :=
  if (m0.1 63 26) = 0 then
    some (pI (pI m0 63 26 (1 : Int32)) 63 27 ((pI m0 63 26 (1 : Int32)).1 63 23))
  else
    some m0
abbrev rmX10_fail : Room := { frames := 0, cells := 0, slots := 0, locals := 0 }

set_option maxRecDepth 100000 in
set_option maxHeartbeats 4000000 in
theorem c_X10_fail {l : Launch} {G : GG} {b : Nat} {ad : Nat → Nat} {nt : Nat} {z : Nat → Nat} {m0 : Mem} {m9 : Mem} (hf : X10_fail m0 = some m9) : MtV l yX10_fail cX10_fail 1 (none) rmX10_fail G b (sg ad nt z) m0 [.ref (ad 63)] (pEV (sg ad nt z) m9) := by
  refine mtV_of (by decide) (Nat.le_of_ble_eq_true rfl) rfl (fun Γ hG X hnm hr => ?_)
  have hret : ∀ (pc : Nat) (lv : List (Nat × Value)), decode cX10_fail pc = .ok (.return_, 1) → Go Γ b (sg ad nt z) 0 0 pc lv [] m9 := fun pc lv d => hr pc lv _ _ d ⟨rfl, rfl⟩
  show Go Γ b (sg ad nt z) 0 0 0 [(0, .ref (ad 63))] [] m0
  refine g_aload_n X 0 dX10_fail_0 rfl rfl ?_
  refine g_getI X 63 9 26 dX10_fail_1 (sgN (by decide)) rfl (by decide) rfl iw_X10 (by decide) rfl q_fl_X10_180 ?_
  refine g_if_ne X (tgt := 20) dX10_fail_4 (by decide) (fun c4 => ?_) (fun c4 => ?_)
  · have hf := ie c4 hf
    obtain rfl := lf1 hf
    exact hret 20 _ dX10_fail_20
  · have hf := it c4 hf
    refine g_aload_n X 0 dX10_fail_7 rfl rfl ?_
    refine g_iconst X (v := 1) dX10_fail_8 (by decide) ?_
    refine g_putI X (tyf := tyX10) 63 9 26 dX10_fail_9 (sgN (by decide)) rfl (by decide) rfl iw_X10 (by decide) rfl q_fl_X10_180 tyX10_ok nmX10 rfl rfl rfl ?_
    refine g_aload_n X 0 dX10_fail_12 rfl rfl ?_
    refine g_aload_n X 0 dX10_fail_13 rfl rfl ?_
    refine g_getI X 63 9 23 dX10_fail_14 (sgN (by decide)) rfl (by decide) rfl iw_X10 (by decide) rfl q_fl_X10_162 ?_
    refine g_putI X (tyf := tyX10) 63 9 27 dX10_fail_17 (sgN (by decide)) rfl (by decide) rfl iw_X10 (by decide) rfl q_fl_X10_184 tyX10_ok nmX10 rfl rfl rfl ?_
    obtain rfl := lf1 hf
    exact hret 20 _ dX10_fail_20

theorem kV_X10_196 : wcV RX10 196 RX10 yX10_next cX10_next 3 (none) 0 := ⟨q_ml_X10_196, q_im_yX10_next, q_se_yX10_next, q_in_X10, q_co_yX10_next, by decide +kernel⟩

theorem kV_X10_193 : wcV RX10 193 RX10 yX10_fail cX10_fail 1 (none) 0 := ⟨q_ml_X10_193, q_im_yX10_fail, q_se_yX10_fail, q_in_X10, q_co_yX10_fail, by decide +kernel⟩

def X10_opens (m0 : Mem) : Option (Int32 × Mem) :=
  if (m0.1 63 25) = (5 : Int32) then
    bv (X10_fail m0) fun m9 =>
    some ((0 : Int32), m9)
  else
    bv (X10_next (pI m0 63 25 ((m0.1 63 25) + (1 : Int32)))) fun m25 =>
    some ((1 : Int32), m25)
abbrev rmX10_opens : Room := { frames := 2, cells := 0, slots := 0, locals := 47 }

set_option maxRecDepth 100000 in
set_option maxHeartbeats 4000000 in
theorem c_X10_opens {l : Launch} {G : GG} {b : Nat} {ad : Nat → Nat} {nt : Nat} {z : Nat → Nat} {m0 : Mem} {r9 : Int32} {m9 : Mem} (hf : X10_opens m0 = some (r9, m9)) : MtI l yX10_opens cX10_opens 1 (some .boolean) rmX10_opens G b (sg ad nt z) m0 [.ref (ad 63)] (pEI r9 (sg ad nt z) m9) := by
  refine mtI_of (by decide) (Nat.le_of_ble_eq_true rfl) .boolean rfl (fun Γ hG X hnm hr => ?_)
  have hret : ∀ (pc : Nat) (lv : List (Nat × Value)), decode cX10_opens pc = .ok (.ireturn, 1) → narrow .boolean (.int r9) = .int r9 → Go Γ b (sg ad nt z) 0 0 pc lv [.int r9] m9 := fun pc lv d hn => hr pc lv _ _ _ d ⟨rfl, rfl, rfl⟩ hn
  show Go Γ b (sg ad nt z) 0 0 0 [(0, .ref (ad 63))] [] m0
  refine g_aload_n X 0 dX10_opens_0 rfl rfl ?_
  refine g_getI X 63 9 25 dX10_opens_1 (sgN (by decide)) rfl (by decide) rfl iw_X10 (by decide) rfl q_fl_X10_190 ?_
  refine g_iconst X (v := 5) dX10_opens_4 (by decide) ?_
  refine g_icmp_ne X (tgt := 14) dX10_opens_5 (by decide) (fun c5 => ?_) (fun c5 => ?_)
  · have hf := ie c5 hf
    refine g_aload_n X 0 dX10_opens_14 rfl rfl ?_
    refine g_dup X dX10_opens_15 rfl ?_
    refine g_getI X 63 9 25 dX10_opens_16 (sgN (by decide)) rfl (by decide) rfl iw_X10 (by decide) rfl q_fl_X10_190 ?_
    refine g_iconst X (v := 1) dX10_opens_19 (by decide) ?_
    refine g_iadd X dX10_opens_20 ?_
    refine g_putI X (tyf := tyX10) 63 9 25 dX10_opens_21 (sgN (by decide)) rfl (by decide) rfl iw_X10 (by decide) rfl q_fl_X10_190 tyX10_ok nmX10 rfl rfl rfl ?_
    refine g_aload_n X 0 dX10_opens_24 rfl rfl ?_
    obtain ⟨m25, h25, hf⟩ := bv_i hf
    refine g_eVV X 63 9 [] kV_X10_196 (c_X10_next h25) dX10_opens_25 rfl rfl (sgN (by decide)) rfl (by decide) rfl rfl ⟨(Nat.le_of_ble_eq_true rfl), (Nat.le_of_ble_eq_true rfl)⟩ ⟨rfl, rfl⟩ ⟨(Nat.zero_le _), (Nat.zero_le _)⟩ (Nat.le_of_ble_eq_true rfl) ?_
    refine g_iconst X (v := 1) dX10_opens_28 (by decide) ?_
    obtain ⟨rfl, rfl⟩ := lf2 hf
    exact hret 29 _ dX10_opens_29 rfl
  · have hf := it c5 hf
    refine g_aload_n X 0 dX10_opens_8 rfl rfl ?_
    obtain ⟨m9, h9, hf⟩ := bv_i hf
    refine g_eVV X 63 9 [] kV_X10_193 (c_X10_fail h9) dX10_opens_9 rfl rfl (sgN (by decide)) rfl (by decide) rfl rfl ⟨(Nat.le_of_ble_eq_true rfl), (Nat.le_of_ble_eq_true rfl)⟩ ⟨rfl, rfl⟩ ⟨(Nat.zero_le _), (Nat.zero_le _)⟩ (Nat.le_of_ble_eq_true rfl) ?_
    refine g_iconst X (v := 0) dX10_opens_12 (by decide) ?_
    obtain ⟨rfl, rfl⟩ := lf2 hf
    exact hret 13 _ dX10_opens_13 rfl

def X10_isSign (p0 : Int32) (m0 : Mem) : Option (Int32 × Mem) :=
  if (m0.1 63 26) = 0 then
    if (m0.1 63 22) = (3 : Int32) then
      if (lg_cmp (m0.2 63 24) p0.toInt64) = 0 then
        some ((1 : Int32), m0)
      else
        some ((0 : Int32), m0)
    else
      some ((0 : Int32), m0)
  else
    some ((0 : Int32), m0)
abbrev rmX10_isSign : Room := { frames := 0, cells := 0, slots := 0, locals := 0 }

set_option maxRecDepth 100000 in
set_option maxHeartbeats 4000000 in
theorem c_X10_isSign {l : Launch} {G : GG} {b : Nat} {ad : Nat → Nat} {nt : Nat} {z : Nat → Nat} {p0 : Int32} {m0 : Mem} {r9 : Int32} {m9 : Mem} (hf : X10_isSign p0 m0 = some (r9, m9)) : MtI l yX10_isSign cX10_isSign 2 (some .boolean) rmX10_isSign G b (sg ad nt z) m0 [.ref (ad 63), .int p0] (pEI r9 (sg ad nt z) m9) := by
  refine mtI_of (by decide) (Nat.le_of_ble_eq_true rfl) .boolean rfl (fun Γ hG X hnm hr => ?_)
  have hret : ∀ (pc : Nat) (lv : List (Nat × Value)), decode cX10_isSign pc = .ok (.ireturn, 1) → narrow .boolean (.int r9) = .int r9 → Go Γ b (sg ad nt z) 0 0 pc lv [.int r9] m9 := fun pc lv d hn => hr pc lv _ _ _ d ⟨rfl, rfl, rfl⟩ hn
  show Go Γ b (sg ad nt z) 0 0 0 [(0, .ref (ad 63)), (1, .int p0)] [] m0
  refine g_aload_n X 0 dX10_isSign_0 rfl rfl ?_
  refine g_getI X 63 9 26 dX10_isSign_1 (sgN (by decide)) rfl (by decide) rfl iw_X10 (by decide) rfl q_fl_X10_180 ?_
  refine g_if_ne X (tgt := 29) dX10_isSign_4 (by decide) (fun c4 => ?_) (fun c4 => ?_)
  · have hf := ie c4 hf
    refine g_iconst X (v := 0) dX10_isSign_29 (by decide) ?_
    obtain ⟨rfl, rfl⟩ := lf2 hf
    exact hret 30 _ dX10_isSign_30 rfl
  · have hf := it c4 hf
    refine g_aload_n X 0 dX10_isSign_7 rfl rfl ?_
    refine g_getI X 63 9 22 dX10_isSign_8 (sgN (by decide)) rfl (by decide) rfl iw_X10 (by decide) rfl q_fl_X10_165 ?_
    refine g_iconst X (v := 3) dX10_isSign_11 (by decide) ?_
    refine g_icmp_ne X (tgt := 29) dX10_isSign_12 (by decide) (fun c12 => ?_) (fun c12 => ?_)
    · have hf := ie c12 hf
      refine g_iconst X (v := 0) dX10_isSign_29 (by decide) ?_
      obtain ⟨rfl, rfl⟩ := lf2 hf
      exact hret 30 _ dX10_isSign_30 rfl
    · have hf := it c12 hf
      refine g_aload_n X 0 dX10_isSign_15 rfl rfl ?_
      refine g_getJ X 63 9 24 dX10_isSign_16 (sgN (by decide)) rfl (by decide) rfl iw_X10 (by decide) rfl q_fl_X10_176 ?_
      refine g_iload_n X 1 dX10_isSign_19 rfl rfl ?_
      refine g_i2l X dX10_isSign_20 ?_
      refine g_lcmp X dX10_isSign_21 ?_
      refine g_if_ne X (tgt := 29) dX10_isSign_22 (by decide) (fun c22 => ?_) (fun c22 => ?_)
      · have hf := ie c22 hf
        refine g_iconst X (v := 0) dX10_isSign_29 (by decide) ?_
        obtain ⟨rfl, rfl⟩ := lf2 hf
        exact hret 30 _ dX10_isSign_30 rfl
      · have hf := it c22 hf
        refine g_iconst X (v := 1) dX10_isSign_25 (by decide) ?_
        refine g_goto X (tgt := 30) dX10_isSign_26 (by decide) ?_
        obtain ⟨rfl, rfl⟩ := lf2 hf
        exact hret 30 _ dX10_isSign_30 rfl

theorem kV_X10_199 : wcV RX10 199 RX10 yX10_isWord cX10_isWord 9 (some .boolean) 8 := ⟨q_ml_X10_199, q_im_yX10_isWord, q_se_yX10_isWord, q_in_X10, q_co_yX10_isWord, by decide +kernel⟩

def X10_name (m0 : Mem) : Option (Int32 × Mem) :=
  bi (X10_isWord (112 : Int32) (108 : Int32) (97 : Int32) (99 : Int32) (101 : Int32) (0 : Int32) (0 : Int32) (0 : Int32) m0) fun r14 m14 =>
  if r14 = 0 then
    bi (X10_isWord (110 : Int32) (117 : Int32) (109 : Int32) (98 : Int32) (101 : Int32) (114 : Int32) (0 : Int32) (0 : Int32) m14) fun r40 m40 =>
    if r40 = 0 then
      bi (X10_isWord (107 : Int32) (110 : Int32) (111 : Int32) (119 : Int32) (110 : Int32) (0 : Int32) (0 : Int32) (0 : Int32) m40) fun r65 m65 =>
      if r65 = 0 then
        bi (X10_isWord (102 : Int32) (97 : Int32) (114 : Int32) (0 : Int32) (0 : Int32) (0 : Int32) (0 : Int32) (0 : Int32) m65) fun r88 m88 =>
        if r88 = 0 then
          bi (X10_isWord (104 : Int32) (101 : Int32) (114 : Int32) (101 : Int32) (0 : Int32) (0 : Int32) (0 : Int32) (0 : Int32) m88) fun r112 m112 =>
          if r112 = 0 then
            bi (X10_isWord (114 : Int32) (111 : Int32) (117 : Int32) (110 : Int32) (100 : Int32) (0 : Int32) (0 : Int32) (0 : Int32) m112) fun r137 m137 =>
            if r137 = 0 then
              bv (X10_fail m137) fun m149 =>
              some ((0 : Int32), m149)
            else
              some (m137.1 63 18, m137)
          else
            some (m112.1 63 17, m112)
        else
          some (m88.1 63 16, m88)
      else
        some (m65.1 63 15, m65)
    else
      some (m40.1 63 14, m40)
  else
    some (m14.1 63 13, m14)
abbrev rmX10_name : Room := { frames := 3, cells := 0, slots := 0, locals := 71 }

set_option maxRecDepth 100000 in
set_option maxHeartbeats 4000000 in
theorem c_X10_name {l : Launch} {G : GG} {b : Nat} {ad : Nat → Nat} {nt : Nat} {z : Nat → Nat} {m0 : Mem} {r9 : Int32} {m9 : Mem} (hf : X10_name m0 = some (r9, m9)) : MtI l yX10_name cX10_name 1 (some .int) rmX10_name G b (sg ad nt z) m0 [.ref (ad 63)] (pEI r9 (sg ad nt z) m9) := by
  refine mtI_of (by decide) (Nat.le_of_ble_eq_true rfl) .int rfl (fun Γ hG X hnm hr => ?_)
  have hret : ∀ (pc : Nat) (lv : List (Nat × Value)), decode cX10_name pc = .ok (.ireturn, 1) → narrow .int (.int r9) = .int r9 → Go Γ b (sg ad nt z) 0 0 pc lv [.int r9] m9 := fun pc lv d hn => hr pc lv _ _ _ d ⟨rfl, rfl, rfl⟩ hn
  show Go Γ b (sg ad nt z) 0 0 0 [(0, .ref (ad 63))] [] m0
  refine g_aload_n X 0 dX10_name_0 rfl rfl ?_
  refine g_bipush X (v := 112) dX10_name_1 (by decide) ?_
  refine g_bipush X (v := 108) dX10_name_3 (by decide) ?_
  refine g_bipush X (v := 97) dX10_name_5 (by decide) ?_
  refine g_bipush X (v := 99) dX10_name_7 (by decide) ?_
  refine g_bipush X (v := 101) dX10_name_9 (by decide) ?_
  refine g_iconst X (v := 0) dX10_name_11 (by decide) ?_
  refine g_iconst X (v := 0) dX10_name_12 (by decide) ?_
  refine g_iconst X (v := 0) dX10_name_13 (by decide) ?_
  obtain ⟨r14, m14, h14, hf⟩ := bi_i hf
  refine g_eVI X 63 9 [.int (112 : Int32), .int (108 : Int32), .int (97 : Int32), .int (99 : Int32), .int (101 : Int32), .int (0 : Int32), .int (0 : Int32), .int (0 : Int32)] kV_X10_199 (c_X10_isWord h14) dX10_name_14 rfl rfl (sgN (by decide)) rfl (by decide) rfl rfl ⟨(Nat.le_of_ble_eq_true rfl), (Nat.le_of_ble_eq_true rfl)⟩ ⟨rfl, rfl⟩ ⟨(Nat.zero_le _), (Nat.zero_le _)⟩ (Nat.le_of_ble_eq_true rfl) ?_
  refine g_if_eq X (tgt := 25) dX10_name_17 (by decide) (fun c17 => ?_) (fun c17 => ?_)
  · have hf := it c17 hf
    refine g_aload_n X 0 dX10_name_25 rfl rfl ?_
    refine g_bipush X (v := 110) dX10_name_26 (by decide) ?_
    refine g_bipush X (v := 117) dX10_name_28 (by decide) ?_
    refine g_bipush X (v := 109) dX10_name_30 (by decide) ?_
    refine g_bipush X (v := 98) dX10_name_32 (by decide) ?_
    refine g_bipush X (v := 101) dX10_name_34 (by decide) ?_
    refine g_bipush X (v := 114) dX10_name_36 (by decide) ?_
    refine g_iconst X (v := 0) dX10_name_38 (by decide) ?_
    refine g_iconst X (v := 0) dX10_name_39 (by decide) ?_
    obtain ⟨r40, m40, h40, hf⟩ := bi_i hf
    refine g_eVI X 63 9 [.int (110 : Int32), .int (117 : Int32), .int (109 : Int32), .int (98 : Int32), .int (101 : Int32), .int (114 : Int32), .int (0 : Int32), .int (0 : Int32)] kV_X10_199 (c_X10_isWord h40) dX10_name_40 rfl rfl (sgN (by decide)) rfl (by decide) rfl rfl ⟨(Nat.le_of_ble_eq_true rfl), (Nat.le_of_ble_eq_true rfl)⟩ ⟨rfl, rfl⟩ ⟨(Nat.zero_le _), (Nat.zero_le _)⟩ (Nat.le_of_ble_eq_true rfl) ?_
    refine g_if_eq X (tgt := 51) dX10_name_43 (by decide) (fun c43 => ?_) (fun c43 => ?_)
    · have hf := it c43 hf
      refine g_aload_n X 0 dX10_name_51 rfl rfl ?_
      refine g_bipush X (v := 107) dX10_name_52 (by decide) ?_
      refine g_bipush X (v := 110) dX10_name_54 (by decide) ?_
      refine g_bipush X (v := 111) dX10_name_56 (by decide) ?_
      refine g_bipush X (v := 119) dX10_name_58 (by decide) ?_
      refine g_bipush X (v := 110) dX10_name_60 (by decide) ?_
      refine g_iconst X (v := 0) dX10_name_62 (by decide) ?_
      refine g_iconst X (v := 0) dX10_name_63 (by decide) ?_
      refine g_iconst X (v := 0) dX10_name_64 (by decide) ?_
      obtain ⟨r65, m65, h65, hf⟩ := bi_i hf
      refine g_eVI X 63 9 [.int (107 : Int32), .int (110 : Int32), .int (111 : Int32), .int (119 : Int32), .int (110 : Int32), .int (0 : Int32), .int (0 : Int32), .int (0 : Int32)] kV_X10_199 (c_X10_isWord h65) dX10_name_65 rfl rfl (sgN (by decide)) rfl (by decide) rfl rfl ⟨(Nat.le_of_ble_eq_true rfl), (Nat.le_of_ble_eq_true rfl)⟩ ⟨rfl, rfl⟩ ⟨(Nat.zero_le _), (Nat.zero_le _)⟩ (Nat.le_of_ble_eq_true rfl) ?_
      refine g_if_eq X (tgt := 76) dX10_name_68 (by decide) (fun c68 => ?_) (fun c68 => ?_)
      · have hf := it c68 hf
        refine g_aload_n X 0 dX10_name_76 rfl rfl ?_
        refine g_bipush X (v := 102) dX10_name_77 (by decide) ?_
        refine g_bipush X (v := 97) dX10_name_79 (by decide) ?_
        refine g_bipush X (v := 114) dX10_name_81 (by decide) ?_
        refine g_iconst X (v := 0) dX10_name_83 (by decide) ?_
        refine g_iconst X (v := 0) dX10_name_84 (by decide) ?_
        refine g_iconst X (v := 0) dX10_name_85 (by decide) ?_
        refine g_iconst X (v := 0) dX10_name_86 (by decide) ?_
        refine g_iconst X (v := 0) dX10_name_87 (by decide) ?_
        obtain ⟨r88, m88, h88, hf⟩ := bi_i hf
        refine g_eVI X 63 9 [.int (102 : Int32), .int (97 : Int32), .int (114 : Int32), .int (0 : Int32), .int (0 : Int32), .int (0 : Int32), .int (0 : Int32), .int (0 : Int32)] kV_X10_199 (c_X10_isWord h88) dX10_name_88 rfl rfl (sgN (by decide)) rfl (by decide) rfl rfl ⟨(Nat.le_of_ble_eq_true rfl), (Nat.le_of_ble_eq_true rfl)⟩ ⟨rfl, rfl⟩ ⟨(Nat.zero_le _), (Nat.zero_le _)⟩ (Nat.le_of_ble_eq_true rfl) ?_
        refine g_if_eq X (tgt := 99) dX10_name_91 (by decide) (fun c91 => ?_) (fun c91 => ?_)
        · have hf := it c91 hf
          refine g_aload_n X 0 dX10_name_99 rfl rfl ?_
          refine g_bipush X (v := 104) dX10_name_100 (by decide) ?_
          refine g_bipush X (v := 101) dX10_name_102 (by decide) ?_
          refine g_bipush X (v := 114) dX10_name_104 (by decide) ?_
          refine g_bipush X (v := 101) dX10_name_106 (by decide) ?_
          refine g_iconst X (v := 0) dX10_name_108 (by decide) ?_
          refine g_iconst X (v := 0) dX10_name_109 (by decide) ?_
          refine g_iconst X (v := 0) dX10_name_110 (by decide) ?_
          refine g_iconst X (v := 0) dX10_name_111 (by decide) ?_
          obtain ⟨r112, m112, h112, hf⟩ := bi_i hf
          refine g_eVI X 63 9 [.int (104 : Int32), .int (101 : Int32), .int (114 : Int32), .int (101 : Int32), .int (0 : Int32), .int (0 : Int32), .int (0 : Int32), .int (0 : Int32)] kV_X10_199 (c_X10_isWord h112) dX10_name_112 rfl rfl (sgN (by decide)) rfl (by decide) rfl rfl ⟨(Nat.le_of_ble_eq_true rfl), (Nat.le_of_ble_eq_true rfl)⟩ ⟨rfl, rfl⟩ ⟨(Nat.zero_le _), (Nat.zero_le _)⟩ (Nat.le_of_ble_eq_true rfl) ?_
          refine g_if_eq X (tgt := 123) dX10_name_115 (by decide) (fun c115 => ?_) (fun c115 => ?_)
          · have hf := it c115 hf
            refine g_aload_n X 0 dX10_name_123 rfl rfl ?_
            refine g_bipush X (v := 114) dX10_name_124 (by decide) ?_
            refine g_bipush X (v := 111) dX10_name_126 (by decide) ?_
            refine g_bipush X (v := 117) dX10_name_128 (by decide) ?_
            refine g_bipush X (v := 110) dX10_name_130 (by decide) ?_
            refine g_bipush X (v := 100) dX10_name_132 (by decide) ?_
            refine g_iconst X (v := 0) dX10_name_134 (by decide) ?_
            refine g_iconst X (v := 0) dX10_name_135 (by decide) ?_
            refine g_iconst X (v := 0) dX10_name_136 (by decide) ?_
            obtain ⟨r137, m137, h137, hf⟩ := bi_i hf
            refine g_eVI X 63 9 [.int (114 : Int32), .int (111 : Int32), .int (117 : Int32), .int (110 : Int32), .int (100 : Int32), .int (0 : Int32), .int (0 : Int32), .int (0 : Int32)] kV_X10_199 (c_X10_isWord h137) dX10_name_137 rfl rfl (sgN (by decide)) rfl (by decide) rfl rfl ⟨(Nat.le_of_ble_eq_true rfl), (Nat.le_of_ble_eq_true rfl)⟩ ⟨rfl, rfl⟩ ⟨(Nat.zero_le _), (Nat.zero_le _)⟩ (Nat.le_of_ble_eq_true rfl) ?_
            refine g_if_eq X (tgt := 148) dX10_name_140 (by decide) (fun c140 => ?_) (fun c140 => ?_)
            · have hf := it c140 hf
              refine g_aload_n X 0 dX10_name_148 rfl rfl ?_
              obtain ⟨m149, h149, hf⟩ := bv_i hf
              refine g_eVV X 63 9 [] kV_X10_193 (c_X10_fail h149) dX10_name_149 rfl rfl (sgN (by decide)) rfl (by decide) rfl rfl ⟨(Nat.le_of_ble_eq_true rfl), (Nat.le_of_ble_eq_true rfl)⟩ ⟨rfl, rfl⟩ ⟨(Nat.zero_le _), (Nat.zero_le _)⟩ (Nat.le_of_ble_eq_true rfl) ?_
              refine g_iconst X (v := 0) dX10_name_152 (by decide) ?_
              obtain ⟨rfl, rfl⟩ := lf2 hf
              exact hret 153 _ dX10_name_153 rfl
            · have hf := ie c140 hf
              refine g_aload_n X 0 dX10_name_143 rfl rfl ?_
              refine g_getI X 63 9 18 dX10_name_144 (sgN (by decide)) rfl (by decide) rfl iw_X10 (by decide) rfl q_fl_X10_218 ?_
              obtain ⟨rfl, rfl⟩ := lf2 hf
              exact hret 147 _ dX10_name_147 rfl
          · have hf := ie c115 hf
            refine g_aload_n X 0 dX10_name_118 rfl rfl ?_
            refine g_getI X 63 9 17 dX10_name_119 (sgN (by decide)) rfl (by decide) rfl iw_X10 (by decide) rfl q_fl_X10_215 ?_
            obtain ⟨rfl, rfl⟩ := lf2 hf
            exact hret 122 _ dX10_name_122 rfl
        · have hf := ie c91 hf
          refine g_aload_n X 0 dX10_name_94 rfl rfl ?_
          refine g_getI X 63 9 16 dX10_name_95 (sgN (by decide)) rfl (by decide) rfl iw_X10 (by decide) rfl q_fl_X10_212 ?_
          obtain ⟨rfl, rfl⟩ := lf2 hf
          exact hret 98 _ dX10_name_98 rfl
      · have hf := ie c68 hf
        refine g_aload_n X 0 dX10_name_71 rfl rfl ?_
        refine g_getI X 63 9 15 dX10_name_72 (sgN (by decide)) rfl (by decide) rfl iw_X10 (by decide) rfl q_fl_X10_209 ?_
        obtain ⟨rfl, rfl⟩ := lf2 hf
        exact hret 75 _ dX10_name_75 rfl
    · have hf := ie c43 hf
      refine g_aload_n X 0 dX10_name_46 rfl rfl ?_
      refine g_getI X 63 9 14 dX10_name_47 (sgN (by decide)) rfl (by decide) rfl iw_X10 (by decide) rfl q_fl_X10_206 ?_
      obtain ⟨rfl, rfl⟩ := lf2 hf
      exact hret 50 _ dX10_name_50 rfl
  · have hf := ie c17 hf
    refine g_aload_n X 0 dX10_name_20 rfl rfl ?_
    refine g_getI X 63 9 13 dX10_name_21 (sgN (by decide)) rfl (by decide) rfl iw_X10 (by decide) rfl q_fl_X10_203 ?_
    obtain ⟨rfl, rfl⟩ := lf2 hf
    exact hret 24 _ dX10_name_24 rfl

theorem kV_X10_221 : wcV RX10 221 RX10 yX10_isSign cX10_isSign 2 (some .boolean) 1 := ⟨q_ml_X10_221, q_im_yX10_isSign, q_se_yX10_isSign, q_in_X10, q_co_yX10_isSign, by decide +kernel⟩

theorem kV_X10_228 : wcV RX10 228 RX10 yX10_name cX10_name 1 (some .int) 0 := ⟨q_ml_X10_228, q_im_yX10_name, q_se_yX10_name, q_in_X10, q_co_yX10_name, by decide +kernel⟩

theorem kV_X10_224 : wcV RX10 224 RX10 yX10_opens cX10_opens 1 (some .boolean) 0 := ⟨q_ml_X10_224, q_im_yX10_opens, q_se_yX10_opens, q_in_X10, q_co_yX10_opens, by decide +kernel⟩

def X10_atom5_98 (v1 : Int32) (m0 : Mem) : Option (Int32 × Mem) :=
  bv (X10_fail m0) fun m99 =>
  some (v1, m99)
def X10_atom5_64 (v1 : Int32) (m0 : Mem) : Option (Int32 × Mem) :=
  if (m0.1 63 26) = 0 then
    if (m0.1 63 22) = (1 : Int32) then
      bi (X10_name m0) fun r80 m80 =>
      if (m80.1 63 26) = 0 then
        bv (X10_next m80) fun m92 =>
        some (r80, m92)
      else
        some (r80, m80)
    else
      X10_atom5_98 v1 m0
  else
    X10_atom5_98 v1 m0
def X10_atom5 (m0 : Mem) : Option (Int32 × Mem) :=
  bi (X10_isSign (45 : Int32) m0) fun r5 m5 =>
  if r5 = 0 then
    bi (X10_isSign (40 : Int32) m5) fun r22 m22 =>
    if r22 = 0 then
      if (m22.1 63 26) = 0 then
        if (m22.1 63 22) = (2 : Int32) then
          bv (X10_next m22) fun m58 =>
          some ((m22.2 63 24).toInt32, m58)
        else
          X10_atom5_64 (0 : Int32) m22
      else
        X10_atom5_64 (0 : Int32) m22
    else
      bi (X10_opens m22) fun r29 m29 =>
      some ((0 : Int32), m29)
  else
    bi (X10_opens m5) fun r12 m12 =>
    some ((0 : Int32), m12)
abbrev rmX10_atom5 : Room := { frames := 4, cells := 0, slots := 0, locals := 91 }
set_option maxRecDepth 100000 in
set_option maxHeartbeats 4000000 in
theorem w_X10_atom5_98 {Γ : Ga} {b : Nat} {ad : Nat → Nat} {nt : Nat} {z : Nat → Nat} {r9 : Int32} {m9 : Mem} (X : Cx Γ b cX10_atom5 2 RX10 (some .int) rmX10_atom5) (hret : ∀ (pc : Nat) (lv : List (Nat × Value)), decode cX10_atom5 pc = .ok (.ireturn, 1) → narrow .int (.int r9) = .int r9 → Go Γ b (sg ad nt z) 0 0 pc lv [.int r9] m9) (v1 : Int32) (m0 : Mem) (hf : X10_atom5_98 v1 m0 = some (r9, m9)) : Go Γ b (sg ad nt z) 0 0 98 [(0, .ref (ad 63)), (1, .int v1)] [] m0 := by
  refine g_aload_n X 0 dX10_atom5_98 rfl rfl ?_
  obtain ⟨m99, h99, hf⟩ := bv_i hf
  refine g_eVV X 63 9 [] kV_X10_193 (c_X10_fail h99) dX10_atom5_99 rfl rfl (sgN (by decide)) rfl (by decide) rfl rfl ⟨(Nat.le_of_ble_eq_true rfl), (Nat.le_of_ble_eq_true rfl)⟩ ⟨rfl, rfl⟩ ⟨(Nat.zero_le _), (Nat.zero_le _)⟩ (Nat.le_of_ble_eq_true rfl) ?_
  refine g_iload_n X 1 dX10_atom5_102 rfl rfl ?_
  obtain ⟨rfl, rfl⟩ := lf2 hf
  exact hret 103 _ dX10_atom5_103 rfl
set_option maxRecDepth 100000 in
set_option maxHeartbeats 4000000 in
theorem w_X10_atom5_64 {Γ : Ga} {b : Nat} {ad : Nat → Nat} {nt : Nat} {z : Nat → Nat} {r9 : Int32} {m9 : Mem} (X : Cx Γ b cX10_atom5 2 RX10 (some .int) rmX10_atom5) (hret : ∀ (pc : Nat) (lv : List (Nat × Value)), decode cX10_atom5 pc = .ok (.ireturn, 1) → narrow .int (.int r9) = .int r9 → Go Γ b (sg ad nt z) 0 0 pc lv [.int r9] m9) (v1 : Int32) (m0 : Mem) (hf : X10_atom5_64 v1 m0 = some (r9, m9)) : Go Γ b (sg ad nt z) 0 0 64 [(0, .ref (ad 63)), (1, .int v1)] [] m0 := by
  refine g_aload_n X 0 dX10_atom5_64 rfl rfl ?_
  refine g_getI X 63 9 26 dX10_atom5_65 (sgN (by decide)) rfl (by decide) rfl iw_X10 (by decide) rfl q_fl_X10_180 ?_
  refine g_if_ne X (tgt := 98) dX10_atom5_68 (by decide) (fun c68 => ?_) (fun c68 => ?_)
  · have hf := ie c68 hf
    exact w_X10_atom5_98 X hret v1 m0 hf
  · have hf := it c68 hf
    refine g_aload_n X 0 dX10_atom5_71 rfl rfl ?_
    refine g_getI X 63 9 22 dX10_atom5_72 (sgN (by decide)) rfl (by decide) rfl iw_X10 (by decide) rfl q_fl_X10_165 ?_
    refine g_iconst X (v := 1) dX10_atom5_75 (by decide) ?_
    refine g_icmp_ne X (tgt := 98) dX10_atom5_76 (by decide) (fun c76 => ?_) (fun c76 => ?_)
    · have hf := ie c76 hf
      exact w_X10_atom5_98 X hret v1 m0 hf
    · have hf := it c76 hf
      refine g_aload_n X 0 dX10_atom5_79 rfl rfl ?_
      obtain ⟨r80, m80, h80, hf⟩ := bi_i hf
      refine g_eVI X 63 9 [] kV_X10_228 (c_X10_name h80) dX10_atom5_80 rfl rfl (sgN (by decide)) rfl (by decide) rfl rfl ⟨(Nat.le_of_ble_eq_true rfl), (Nat.le_of_ble_eq_true rfl)⟩ ⟨rfl, rfl⟩ ⟨(Nat.zero_le _), (Nat.zero_le _)⟩ (Nat.le_of_ble_eq_true rfl) ?_
      refine g_istore_n X (lv' := [(1, .int r80), (0, .ref (ad 63))]) dX10_atom5_83 rfl (by decide) rfl ?_
      refine g_aload_n X 1 dX10_atom5_84 rfl rfl ?_
      refine g_getI X 63 9 26 dX10_atom5_85 (sgN (by decide)) rfl (by decide) rfl iw_X10 (by decide) rfl q_fl_X10_180 ?_
      refine g_if_ne X (tgt := 102) dX10_atom5_88 (by decide) (fun c88 => ?_) (fun c88 => ?_)
      · have hf := ie c88 hf
        refine g_iload_n X 0 dX10_atom5_102 rfl rfl ?_
        obtain ⟨rfl, rfl⟩ := lf2 hf
        exact hret 103 _ dX10_atom5_103 rfl
      · have hf := it c88 hf
        refine g_aload_n X 1 dX10_atom5_91 rfl rfl ?_
        obtain ⟨m92, h92, hf⟩ := bv_i hf
        refine g_eVV X 63 9 [] kV_X10_196 (c_X10_next h92) dX10_atom5_92 rfl rfl (sgN (by decide)) rfl (by decide) rfl rfl ⟨(Nat.le_of_ble_eq_true rfl), (Nat.le_of_ble_eq_true rfl)⟩ ⟨rfl, rfl⟩ ⟨(Nat.zero_le _), (Nat.zero_le _)⟩ (Nat.le_of_ble_eq_true rfl) ?_
        refine g_goto X (tgt := 102) dX10_atom5_95 (by decide) ?_
        refine g_iload_n X 0 dX10_atom5_102 rfl rfl ?_
        obtain ⟨rfl, rfl⟩ := lf2 hf
        exact hret 103 _ dX10_atom5_103 rfl
set_option maxRecDepth 100000 in
set_option maxHeartbeats 4000000 in
theorem c_X10_atom5 {l : Launch} {G : GG} {b : Nat} {ad : Nat → Nat} {nt : Nat} {z : Nat → Nat} {m0 : Mem} {r9 : Int32} {m9 : Mem} (hf : X10_atom5 m0 = some (r9, m9)) : MtI l yX10_atom5 cX10_atom5 2 (some .int) rmX10_atom5 G b (sg ad nt z) m0 [.ref (ad 63)] (pEI r9 (sg ad nt z) m9) := by
  refine mtI_of (by decide) (Nat.le_of_ble_eq_true rfl) .int rfl (fun Γ hG X hnm hr => ?_)
  have hret : ∀ (pc : Nat) (lv : List (Nat × Value)), decode cX10_atom5 pc = .ok (.ireturn, 1) → narrow .int (.int r9) = .int r9 → Go Γ b (sg ad nt z) 0 0 pc lv [.int r9] m9 := fun pc lv d hn => hr pc lv _ _ _ d ⟨rfl, rfl, rfl⟩ hn
  show Go Γ b (sg ad nt z) 0 0 0 [(0, .ref (ad 63))] [] m0
  refine g_iconst X (v := 0) dX10_atom5_0 (by decide) ?_
  refine g_istore_n X (lv' := [(1, .int (0 : Int32)), (0, .ref (ad 63))]) dX10_atom5_1 rfl (by decide) rfl ?_
  refine g_aload_n X 1 dX10_atom5_2 rfl rfl ?_
  refine g_bipush X (v := 45) dX10_atom5_3 (by decide) ?_
  obtain ⟨r5, m5, h5, hf⟩ := bi_i hf
  refine g_eVI X 63 9 [.int (45 : Int32)] kV_X10_221 (c_X10_isSign h5) dX10_atom5_5 rfl rfl (sgN (by decide)) rfl (by decide) rfl rfl ⟨(Nat.le_of_ble_eq_true rfl), (Nat.le_of_ble_eq_true rfl)⟩ ⟨rfl, rfl⟩ ⟨(Nat.zero_le _), (Nat.zero_le _)⟩ (Nat.le_of_ble_eq_true rfl) ?_
  refine g_if_eq X (tgt := 19) dX10_atom5_8 (by decide) (fun c8 => ?_) (fun c8 => ?_)
  · have hf := it c8 hf
    refine g_aload_n X 1 dX10_atom5_19 rfl rfl ?_
    refine g_bipush X (v := 40) dX10_atom5_20 (by decide) ?_
    obtain ⟨r22, m22, h22, hf⟩ := bi_i hf
    refine g_eVI X 63 9 [.int (40 : Int32)] kV_X10_221 (c_X10_isSign h22) dX10_atom5_22 rfl rfl (sgN (by decide)) rfl (by decide) rfl rfl ⟨(Nat.le_of_ble_eq_true rfl), (Nat.le_of_ble_eq_true rfl)⟩ ⟨rfl, rfl⟩ ⟨(Nat.zero_le _), (Nat.zero_le _)⟩ (Nat.le_of_ble_eq_true rfl) ?_
    refine g_if_eq X (tgt := 36) dX10_atom5_25 (by decide) (fun c25 => ?_) (fun c25 => ?_)
    · have hf := it c25 hf
      refine g_aload_n X 1 dX10_atom5_36 rfl rfl ?_
      refine g_getI X 63 9 26 dX10_atom5_37 (sgN (by decide)) rfl (by decide) rfl iw_X10 (by decide) rfl q_fl_X10_180 ?_
      refine g_if_ne X (tgt := 64) dX10_atom5_40 (by decide) (fun c40 => ?_) (fun c40 => ?_)
      · have hf := ie c40 hf
        refine g_pick [1, 0] (lv' := [(0, .ref (ad 63)), (1, .int (0 : Int32))]) rfl ?_
        exact w_X10_atom5_64 X hret (0 : Int32) m22 hf
      · have hf := it c40 hf
        refine g_aload_n X 1 dX10_atom5_43 rfl rfl ?_
        refine g_getI X 63 9 22 dX10_atom5_44 (sgN (by decide)) rfl (by decide) rfl iw_X10 (by decide) rfl q_fl_X10_165 ?_
        refine g_iconst X (v := 2) dX10_atom5_47 (by decide) ?_
        refine g_icmp_ne X (tgt := 64) dX10_atom5_48 (by decide) (fun c48 => ?_) (fun c48 => ?_)
        · have hf := ie c48 hf
          refine g_pick [1, 0] (lv' := [(0, .ref (ad 63)), (1, .int (0 : Int32))]) rfl ?_
          exact w_X10_atom5_64 X hret (0 : Int32) m22 hf
        · have hf := it c48 hf
          refine g_aload_n X 1 dX10_atom5_51 rfl rfl ?_
          refine g_getJ X 63 9 24 dX10_atom5_52 (sgN (by decide)) rfl (by decide) rfl iw_X10 (by decide) rfl q_fl_X10_176 ?_
          refine g_l2i X dX10_atom5_55 ?_
          refine g_istore_n X (lv' := [(1, .int ((m22.2 63 24).toInt32)), (0, .ref (ad 63))]) dX10_atom5_56 rfl (by decide) rfl ?_
          refine g_aload_n X 1 dX10_atom5_57 rfl rfl ?_
          obtain ⟨m58, h58, hf⟩ := bv_i hf
          refine g_eVV X 63 9 [] kV_X10_196 (c_X10_next h58) dX10_atom5_58 rfl rfl (sgN (by decide)) rfl (by decide) rfl rfl ⟨(Nat.le_of_ble_eq_true rfl), (Nat.le_of_ble_eq_true rfl)⟩ ⟨rfl, rfl⟩ ⟨(Nat.zero_le _), (Nat.zero_le _)⟩ (Nat.le_of_ble_eq_true rfl) ?_
          refine g_goto X (tgt := 102) dX10_atom5_61 (by decide) ?_
          refine g_iload_n X 0 dX10_atom5_102 rfl rfl ?_
          obtain ⟨rfl, rfl⟩ := lf2 hf
          exact hret 103 _ dX10_atom5_103 rfl
    · have hf := ie c25 hf
      refine g_aload_n X 1 dX10_atom5_28 rfl rfl ?_
      obtain ⟨r29, m29, h29, hf⟩ := bi_i hf
      refine g_eVI X 63 9 [] kV_X10_224 (c_X10_opens h29) dX10_atom5_29 rfl rfl (sgN (by decide)) rfl (by decide) rfl rfl ⟨(Nat.le_of_ble_eq_true rfl), (Nat.le_of_ble_eq_true rfl)⟩ ⟨rfl, rfl⟩ ⟨(Nat.zero_le _), (Nat.zero_le _)⟩ (Nat.le_of_ble_eq_true rfl) ?_
      refine g_pop X dX10_atom5_32 rfl ?_
      refine g_goto X (tgt := 102) dX10_atom5_33 (by decide) ?_
      refine g_iload_n X 0 dX10_atom5_102 rfl rfl ?_
      obtain ⟨rfl, rfl⟩ := lf2 hf
      exact hret 103 _ dX10_atom5_103 rfl
  · have hf := ie c8 hf
    refine g_aload_n X 1 dX10_atom5_11 rfl rfl ?_
    obtain ⟨r12, m12, h12, hf⟩ := bi_i hf
    refine g_eVI X 63 9 [] kV_X10_224 (c_X10_opens h12) dX10_atom5_12 rfl rfl (sgN (by decide)) rfl (by decide) rfl rfl ⟨(Nat.le_of_ble_eq_true rfl), (Nat.le_of_ble_eq_true rfl)⟩ ⟨rfl, rfl⟩ ⟨(Nat.zero_le _), (Nat.zero_le _)⟩ (Nat.le_of_ble_eq_true rfl) ?_
    refine g_pop X dX10_atom5_15 rfl ?_
    refine g_goto X (tgt := 102) dX10_atom5_16 (by decide) ?_
    refine g_iload_n X 0 dX10_atom5_102 rfl rfl ?_
    obtain ⟨rfl, rfl⟩ := lf2 hf
    exact hret 103 _ dX10_atom5_103 rfl

theorem kV_X10_232 : wcV RX10 232 RX10 yX10_atom5 cX10_atom5 2 (some .int) 0 := ⟨q_ml_X10_232, q_im_yX10_atom5, q_se_yX10_atom5, q_in_X10, q_co_yX10_atom5, by decide +kernel⟩

def X10_term5_5 : Nat → Int32 → Mem → Option (Int32 × Mem)
  | 0, _, _ => none
  | n + 1, v1, m0 =>
    bi (X10_isSign (42 : Int32) m0) fun r8 m8 =>
    if r8 = 0 then
      some (v1, m8)
    else
      bv (X10_next m8) fun m15 =>
      bi (X10_atom5 m15) fun r20 m20 =>
      X10_term5_5 n (v1 * r20) m20
def X10_term5 (m0 : Mem) : Option (Int32 × Mem) :=
  bi (X10_atom5 m0) fun r1 m1 =>
  X10_term5_5 10000 r1 m1
abbrev rmX10_term5 : Room := { frames := 5, cells := 0, slots := 0, locals := 112 }
set_option maxRecDepth 100000 in
set_option maxHeartbeats 4000000 in
theorem w_X10_term5_5 {Γ : Ga} {b : Nat} {ad : Nat → Nat} {nt : Nat} {z : Nat → Nat} {r9 : Int32} {m9 : Mem} (X : Cx Γ b cX10_term5 2 RX10 (some .int) rmX10_term5) (hret : ∀ (pc : Nat) (lv : List (Nat × Value)), decode cX10_term5 pc = .ok (.ireturn, 1) → narrow .int (.int r9) = .int r9 → Go Γ b (sg ad nt z) 0 0 pc lv [.int r9] m9) : ∀ (n : Nat) (v1 : Int32) (m0 : Mem), X10_term5_5 n v1 m0 = some (r9, m9) → Go Γ b (sg ad nt z) 0 0 5 [(0, .ref (ad 63)), (1, .int v1)] [] m0 := by
  intro n
  induction n with
  | zero =>
    intro v1 m0 hf
    cases hf
  | succ n ih =>
    intro v1 m0 hf
    refine g_aload_n X 0 dX10_term5_5 rfl rfl ?_
    refine g_bipush X (v := 42) dX10_term5_6 (by decide) ?_
    obtain ⟨r8, m8, h8, hf⟩ := bi_i hf
    refine g_eVI X 63 9 [.int (42 : Int32)] kV_X10_221 (c_X10_isSign h8) dX10_term5_8 rfl rfl (sgN (by decide)) rfl (by decide) rfl rfl ⟨(Nat.le_of_ble_eq_true rfl), (Nat.le_of_ble_eq_true rfl)⟩ ⟨rfl, rfl⟩ ⟨(Nat.zero_le _), (Nat.zero_le _)⟩ (Nat.le_of_ble_eq_true rfl) ?_
    refine g_if_eq X (tgt := 28) dX10_term5_11 (by decide) (fun c11 => ?_) (fun c11 => ?_)
    · have hf := it c11 hf
      refine g_iload_n X 1 dX10_term5_28 rfl rfl ?_
      obtain ⟨rfl, rfl⟩ := lf2 hf
      exact hret 29 _ dX10_term5_29 rfl
    · have hf := ie c11 hf
      refine g_aload_n X 0 dX10_term5_14 rfl rfl ?_
      obtain ⟨m15, h15, hf⟩ := bv_i hf
      refine g_eVV X 63 9 [] kV_X10_196 (c_X10_next h15) dX10_term5_15 rfl rfl (sgN (by decide)) rfl (by decide) rfl rfl ⟨(Nat.le_of_ble_eq_true rfl), (Nat.le_of_ble_eq_true rfl)⟩ ⟨rfl, rfl⟩ ⟨(Nat.zero_le _), (Nat.zero_le _)⟩ (Nat.le_of_ble_eq_true rfl) ?_
      refine g_iload_n X 1 dX10_term5_18 rfl rfl ?_
      refine g_aload_n X 0 dX10_term5_19 rfl rfl ?_
      obtain ⟨r20, m20, h20, hf⟩ := bi_i hf
      refine g_eVI X 63 9 [] kV_X10_232 (c_X10_atom5 h20) dX10_term5_20 rfl rfl (sgN (by decide)) rfl (by decide) rfl rfl ⟨(Nat.le_of_ble_eq_true rfl), (Nat.le_of_ble_eq_true rfl)⟩ ⟨rfl, rfl⟩ ⟨(Nat.zero_le _), (Nat.zero_le _)⟩ (Nat.le_of_ble_eq_true rfl) ?_
      refine g_imul X dX10_term5_23 ?_
      refine g_istore_n X (lv' := [(1, .int (v1 * r20)), (0, .ref (ad 63))]) dX10_term5_24 rfl (by decide) rfl ?_
      refine g_goto X (tgt := 5) dX10_term5_25 (by decide) ?_
      refine g_pick [1, 0] (lv' := [(0, .ref (ad 63)), (1, .int (v1 * r20))]) rfl ?_
      exact ih (v1 * r20) m20 hf
set_option maxRecDepth 100000 in
set_option maxHeartbeats 4000000 in
theorem c_X10_term5 {l : Launch} {G : GG} {b : Nat} {ad : Nat → Nat} {nt : Nat} {z : Nat → Nat} {m0 : Mem} {r9 : Int32} {m9 : Mem} (hf : X10_term5 m0 = some (r9, m9)) : MtI l yX10_term5 cX10_term5 2 (some .int) rmX10_term5 G b (sg ad nt z) m0 [.ref (ad 63)] (pEI r9 (sg ad nt z) m9) := by
  refine mtI_of (by decide) (Nat.le_of_ble_eq_true rfl) .int rfl (fun Γ hG X hnm hr => ?_)
  have hret : ∀ (pc : Nat) (lv : List (Nat × Value)), decode cX10_term5 pc = .ok (.ireturn, 1) → narrow .int (.int r9) = .int r9 → Go Γ b (sg ad nt z) 0 0 pc lv [.int r9] m9 := fun pc lv d hn => hr pc lv _ _ _ d ⟨rfl, rfl, rfl⟩ hn
  show Go Γ b (sg ad nt z) 0 0 0 [(0, .ref (ad 63))] [] m0
  refine g_aload_n X 0 dX10_term5_0 rfl rfl ?_
  obtain ⟨r1, m1, h1, hf⟩ := bi_i hf
  refine g_eVI X 63 9 [] kV_X10_232 (c_X10_atom5 h1) dX10_term5_1 rfl rfl (sgN (by decide)) rfl (by decide) rfl rfl ⟨(Nat.le_of_ble_eq_true rfl), (Nat.le_of_ble_eq_true rfl)⟩ ⟨rfl, rfl⟩ ⟨(Nat.zero_le _), (Nat.zero_le _)⟩ (Nat.le_of_ble_eq_true rfl) ?_
  refine g_istore_n X (lv' := [(1, .int r1), (0, .ref (ad 63))]) dX10_term5_4 rfl (by decide) rfl ?_
  refine g_pick [1, 0] (lv' := [(0, .ref (ad 63)), (1, .int r1)]) rfl ?_
  exact w_X10_term5_5 X hret 10000 r1 m1 hf

theorem kV_X10_235 : wcV RX10 235 RX10 yX10_term5 cX10_term5 2 (some .int) 0 := ⟨q_ml_X10_235, q_im_yX10_term5, q_se_yX10_term5, q_in_X10, q_co_yX10_term5, by decide +kernel⟩

def X10_added5_62 (k5 : Int32 → Mem → Option (Int32 × Mem)) (s0 : Int32) (m0 : Mem) : Option (Int32 × Mem) :=
  k5 s0 m0
def X10_added5_39 (k5 : Int32 → Mem → Option (Int32 × Mem)) (v1 : Int32) (s0 : Int32) (m0 : Mem) : Option (Int32 × Mem) :=
  bv (X10_next m0) fun m41 =>
  bi (X10_term5 m41) fun r45 m45 =>
  if s0 = 0 then
    X10_added5_62 k5 (v1 - r45) m45
  else
    X10_added5_62 k5 (v1 + r45) m45
def X10_added5_23 (k5 : Int32 → Mem → Option (Int32 × Mem)) (v1 : Int32) (m0 : Mem) : Option (Int32 × Mem) :=
  if (lg_cmp (m0.2 63 24) (43 : Int64)) = 0 then
    X10_added5_39 k5 v1 (1 : Int32) m0
  else
    X10_added5_39 k5 v1 (0 : Int32) m0
def X10_added5_5 : Nat → Int32 → Mem → Option (Int32 × Mem)
  | 0, _, _ => none
  | n + 1, v1, m0 =>
    bi (X10_isSign (43 : Int32) m0) fun r8 m8 =>
    if r8 = 0 then
      bi (X10_isSign (45 : Int32) m8) fun r17 m17 =>
      if r17 = 0 then
        some (v1, m17)
      else
        X10_added5_23 (X10_added5_5 n) v1 m17
    else
      X10_added5_23 (X10_added5_5 n) v1 m8
def X10_added5 (m0 : Mem) : Option (Int32 × Mem) :=
  bi (X10_term5 m0) fun r1 m1 =>
  X10_added5_5 10000 r1 m1
abbrev rmX10_added5 : Room := { frames := 6, cells := 0, slots := 0, locals := 133 }
set_option maxRecDepth 100000 in
set_option maxHeartbeats 4000000 in
theorem w_X10_added5_62 {Γ : Ga} {b : Nat} {ad : Nat → Nat} {nt : Nat} {z : Nat → Nat} {k5 : Int32 → Mem → Option (Int32 × Mem)} {r9 : Int32} {m9 : Mem} (X : Cx Γ b cX10_added5 4 RX10 (some .int) rmX10_added5) (hret : ∀ (pc : Nat) (lv : List (Nat × Value)), decode cX10_added5 pc = .ok (.ireturn, 1) → narrow .int (.int r9) = .int r9 → Go Γ b (sg ad nt z) 0 0 pc lv [.int r9] m9) (hk5 : ∀ (v1 : Int32) (m0 : Mem), k5 v1 m0 = some (r9, m9) → Go Γ b (sg ad nt z) 0 0 5 [(0, .ref (ad 63)), (1, .int v1)] [] m0) (s0 : Int32) (m0 : Mem) (hf : X10_added5_62 k5 s0 m0 = some (r9, m9)) : Go Γ b (sg ad nt z) 0 0 62 [(0, .ref (ad 63))] [.int s0] m0 := by
  refine g_istore_n X (lv' := [(1, .int s0), (0, .ref (ad 63))]) dX10_added5_62 rfl (by decide) rfl ?_
  refine g_goto X (tgt := 5) dX10_added5_63 (by decide) ?_
  refine g_pick [1, 0] (lv' := [(0, .ref (ad 63)), (1, .int s0)]) rfl ?_
  exact hk5 s0 m0 hf
set_option maxRecDepth 100000 in
set_option maxHeartbeats 4000000 in
theorem w_X10_added5_39 {Γ : Ga} {b : Nat} {ad : Nat → Nat} {nt : Nat} {z : Nat → Nat} {k5 : Int32 → Mem → Option (Int32 × Mem)} {r9 : Int32} {m9 : Mem} (X : Cx Γ b cX10_added5 4 RX10 (some .int) rmX10_added5) (hret : ∀ (pc : Nat) (lv : List (Nat × Value)), decode cX10_added5 pc = .ok (.ireturn, 1) → narrow .int (.int r9) = .int r9 → Go Γ b (sg ad nt z) 0 0 pc lv [.int r9] m9) (hk5 : ∀ (v1 : Int32) (m0 : Mem), k5 v1 m0 = some (r9, m9) → Go Γ b (sg ad nt z) 0 0 5 [(0, .ref (ad 63)), (1, .int v1)] [] m0) (v1 : Int32) (s0 : Int32) (m0 : Mem) (hf : X10_added5_39 k5 v1 s0 m0 = some (r9, m9)) : Go Γ b (sg ad nt z) 0 0 39 [(0, .ref (ad 63)), (1, .int v1)] [.int s0] m0 := by
  refine g_istore_n X (lv' := [(2, .int s0), (0, .ref (ad 63)), (1, .int v1)]) dX10_added5_39 rfl (by decide) rfl ?_
  refine g_aload_n X 1 dX10_added5_40 rfl rfl ?_
  obtain ⟨m41, h41, hf⟩ := bv_i hf
  refine g_eVV X 63 9 [] kV_X10_196 (c_X10_next h41) dX10_added5_41 rfl rfl (sgN (by decide)) rfl (by decide) rfl rfl ⟨(Nat.le_of_ble_eq_true rfl), (Nat.le_of_ble_eq_true rfl)⟩ ⟨rfl, rfl⟩ ⟨(Nat.zero_le _), (Nat.zero_le _)⟩ (Nat.le_of_ble_eq_true rfl) ?_
  refine g_aload_n X 1 dX10_added5_44 rfl rfl ?_
  obtain ⟨r45, m45, h45, hf⟩ := bi_i hf
  refine g_eVI X 63 9 [] kV_X10_235 (c_X10_term5 h45) dX10_added5_45 rfl rfl (sgN (by decide)) rfl (by decide) rfl rfl ⟨(Nat.le_of_ble_eq_true rfl), (Nat.le_of_ble_eq_true rfl)⟩ ⟨rfl, rfl⟩ ⟨(Nat.zero_le _), (Nat.zero_le _)⟩ (Nat.le_of_ble_eq_true rfl) ?_
  refine g_istore_n X (lv' := [(3, .int r45), (2, .int s0), (0, .ref (ad 63)), (1, .int v1)]) dX10_added5_48 rfl (by decide) rfl ?_
  refine g_iload_n X 1 dX10_added5_49 rfl rfl ?_
  refine g_if_eq X (tgt := 59) dX10_added5_50 (by decide) (fun c50 => ?_) (fun c50 => ?_)
  · have hf := it c50 hf
    refine g_iload_n X 3 dX10_added5_59 rfl rfl ?_
    refine g_iload_n X 0 dX10_added5_60 rfl rfl ?_
    refine g_isub X dX10_added5_61 ?_
    refine g_pick [2] (lv' := [(0, .ref (ad 63))]) rfl ?_
    exact w_X10_added5_62 X hret hk5 (v1 - r45) m45 hf
  · have hf := ie c50 hf
    refine g_iload_n X 3 dX10_added5_53 rfl rfl ?_
    refine g_iload_n X 0 dX10_added5_54 rfl rfl ?_
    refine g_iadd X dX10_added5_55 ?_
    refine g_goto X (tgt := 62) dX10_added5_56 (by decide) ?_
    refine g_pick [2] (lv' := [(0, .ref (ad 63))]) rfl ?_
    exact w_X10_added5_62 X hret hk5 (v1 + r45) m45 hf
set_option maxRecDepth 100000 in
set_option maxHeartbeats 4000000 in
theorem w_X10_added5_23 {Γ : Ga} {b : Nat} {ad : Nat → Nat} {nt : Nat} {z : Nat → Nat} {k5 : Int32 → Mem → Option (Int32 × Mem)} {r9 : Int32} {m9 : Mem} (X : Cx Γ b cX10_added5 4 RX10 (some .int) rmX10_added5) (hret : ∀ (pc : Nat) (lv : List (Nat × Value)), decode cX10_added5 pc = .ok (.ireturn, 1) → narrow .int (.int r9) = .int r9 → Go Γ b (sg ad nt z) 0 0 pc lv [.int r9] m9) (hk5 : ∀ (v1 : Int32) (m0 : Mem), k5 v1 m0 = some (r9, m9) → Go Γ b (sg ad nt z) 0 0 5 [(0, .ref (ad 63)), (1, .int v1)] [] m0) (v1 : Int32) (m0 : Mem) (hf : X10_added5_23 k5 v1 m0 = some (r9, m9)) : Go Γ b (sg ad nt z) 0 0 23 [(0, .ref (ad 63)), (1, .int v1)] [] m0 := by
  refine g_aload_n X 0 dX10_added5_23 rfl rfl ?_
  refine g_getJ X 63 9 24 dX10_added5_24 (sgN (by decide)) rfl (by decide) rfl iw_X10 (by decide) rfl q_fl_X10_176 ?_
  refine g_ldc2 X dX10_added5_27 q_cl_X10_238 ?_
  refine g_lcmp X dX10_added5_30 ?_
  refine g_if_ne X (tgt := 38) dX10_added5_31 (by decide) (fun c31 => ?_) (fun c31 => ?_)
  · have hf := ie c31 hf
    refine g_iconst X (v := 0) dX10_added5_38 (by decide) ?_
    exact w_X10_added5_39 X hret hk5 v1 (0 : Int32) m0 hf
  · have hf := it c31 hf
    refine g_iconst X (v := 1) dX10_added5_34 (by decide) ?_
    refine g_goto X (tgt := 39) dX10_added5_35 (by decide) ?_
    exact w_X10_added5_39 X hret hk5 v1 (1 : Int32) m0 hf
set_option maxRecDepth 100000 in
set_option maxHeartbeats 4000000 in
theorem w_X10_added5_5 {Γ : Ga} {b : Nat} {ad : Nat → Nat} {nt : Nat} {z : Nat → Nat} {r9 : Int32} {m9 : Mem} (X : Cx Γ b cX10_added5 4 RX10 (some .int) rmX10_added5) (hret : ∀ (pc : Nat) (lv : List (Nat × Value)), decode cX10_added5 pc = .ok (.ireturn, 1) → narrow .int (.int r9) = .int r9 → Go Γ b (sg ad nt z) 0 0 pc lv [.int r9] m9) : ∀ (n : Nat) (v1 : Int32) (m0 : Mem), X10_added5_5 n v1 m0 = some (r9, m9) → Go Γ b (sg ad nt z) 0 0 5 [(0, .ref (ad 63)), (1, .int v1)] [] m0 := by
  intro n
  induction n with
  | zero =>
    intro v1 m0 hf
    cases hf
  | succ n ih =>
    intro v1 m0 hf
    refine g_aload_n X 0 dX10_added5_5 rfl rfl ?_
    refine g_bipush X (v := 43) dX10_added5_6 (by decide) ?_
    obtain ⟨r8, m8, h8, hf⟩ := bi_i hf
    refine g_eVI X 63 9 [.int (43 : Int32)] kV_X10_221 (c_X10_isSign h8) dX10_added5_8 rfl rfl (sgN (by decide)) rfl (by decide) rfl rfl ⟨(Nat.le_of_ble_eq_true rfl), (Nat.le_of_ble_eq_true rfl)⟩ ⟨rfl, rfl⟩ ⟨(Nat.zero_le _), (Nat.zero_le _)⟩ (Nat.le_of_ble_eq_true rfl) ?_
    refine g_if_ne X (tgt := 23) dX10_added5_11 (by decide) (fun c11 => ?_) (fun c11 => ?_)
    · have hf := ie c11 hf
      exact w_X10_added5_23 X hret ih v1 m8 hf
    · have hf := it c11 hf
      refine g_aload_n X 0 dX10_added5_14 rfl rfl ?_
      refine g_bipush X (v := 45) dX10_added5_15 (by decide) ?_
      obtain ⟨r17, m17, h17, hf⟩ := bi_i hf
      refine g_eVI X 63 9 [.int (45 : Int32)] kV_X10_221 (c_X10_isSign h17) dX10_added5_17 rfl rfl (sgN (by decide)) rfl (by decide) rfl rfl ⟨(Nat.le_of_ble_eq_true rfl), (Nat.le_of_ble_eq_true rfl)⟩ ⟨rfl, rfl⟩ ⟨(Nat.zero_le _), (Nat.zero_le _)⟩ (Nat.le_of_ble_eq_true rfl) ?_
      refine g_if_eq X (tgt := 66) dX10_added5_20 (by decide) (fun c20 => ?_) (fun c20 => ?_)
      · have hf := it c20 hf
        refine g_iload_n X 1 dX10_added5_66 rfl rfl ?_
        obtain ⟨rfl, rfl⟩ := lf2 hf
        exact hret 67 _ dX10_added5_67 rfl
      · have hf := ie c20 hf
        exact w_X10_added5_23 X hret ih v1 m17 hf
set_option maxRecDepth 100000 in
set_option maxHeartbeats 4000000 in
theorem c_X10_added5 {l : Launch} {G : GG} {b : Nat} {ad : Nat → Nat} {nt : Nat} {z : Nat → Nat} {m0 : Mem} {r9 : Int32} {m9 : Mem} (hf : X10_added5 m0 = some (r9, m9)) : MtI l yX10_added5 cX10_added5 4 (some .int) rmX10_added5 G b (sg ad nt z) m0 [.ref (ad 63)] (pEI r9 (sg ad nt z) m9) := by
  refine mtI_of (by decide) (Nat.le_of_ble_eq_true rfl) .int rfl (fun Γ hG X hnm hr => ?_)
  have hret : ∀ (pc : Nat) (lv : List (Nat × Value)), decode cX10_added5 pc = .ok (.ireturn, 1) → narrow .int (.int r9) = .int r9 → Go Γ b (sg ad nt z) 0 0 pc lv [.int r9] m9 := fun pc lv d hn => hr pc lv _ _ _ d ⟨rfl, rfl, rfl⟩ hn
  show Go Γ b (sg ad nt z) 0 0 0 [(0, .ref (ad 63))] [] m0
  refine g_aload_n X 0 dX10_added5_0 rfl rfl ?_
  obtain ⟨r1, m1, h1, hf⟩ := bi_i hf
  refine g_eVI X 63 9 [] kV_X10_235 (c_X10_term5 h1) dX10_added5_1 rfl rfl (sgN (by decide)) rfl (by decide) rfl rfl ⟨(Nat.le_of_ble_eq_true rfl), (Nat.le_of_ble_eq_true rfl)⟩ ⟨rfl, rfl⟩ ⟨(Nat.zero_le _), (Nat.zero_le _)⟩ (Nat.le_of_ble_eq_true rfl) ?_
  refine g_istore_n X (lv' := [(1, .int r1), (0, .ref (ad 63))]) dX10_added5_4 rfl (by decide) rfl ?_
  refine g_pick [1, 0] (lv' := [(0, .ref (ad 63)), (1, .int r1)]) rfl ?_
  exact w_X10_added5_5 X hret 10000 r1 m1 hf

theorem kV_X10_240 : wcV RX10 240 RX10 yX10_added5 cX10_added5 4 (some .int) 0 := ⟨q_ml_X10_240, q_im_yX10_added5, q_se_yX10_added5, q_in_X10, q_co_yX10_added5, by decide +kernel⟩

def X10_not5_66 (v1 : Int32) (s0 : Int32) (m0 : Mem) : Option (Int32 × Mem) :=
  bv (X10_next m0) fun m68 =>
  bi (X10_added5 m68) fun r72 m72 =>
  if s0 = 0 then
    if v1 = r72 then
      some ((1 : Int32), m72)
    else
      some ((0 : Int32), m72)
  else
    if r72 ≤ v1 then
      some ((0 : Int32), m72)
    else
      some ((1 : Int32), m72)
def X10_not5_50 (v1 : Int32) (m0 : Mem) : Option (Int32 × Mem) :=
  if (lg_cmp (m0.2 63 24) (60 : Int64)) = 0 then
    X10_not5_66 v1 (1 : Int32) m0
  else
    X10_not5_66 v1 (0 : Int32) m0
def X10_not5 (m0 : Mem) : Option (Int32 × Mem) :=
  bi (X10_isWord (110 : Int32) (111 : Int32) (116 : Int32) (0 : Int32) (0 : Int32) (0 : Int32) (0 : Int32) (0 : Int32) m0) fun r12 m12 =>
  if r12 = 0 then
    bi (X10_added5 m12) fun r26 m26 =>
    bi (X10_isSign (60 : Int32) m26) fun r33 m33 =>
    if r33 = 0 then
      bi (X10_isSign (61 : Int32) m33) fun r42 m42 =>
      if r42 = 0 then
        some (r26, m42)
      else
        X10_not5_50 r26 m42
    else
      X10_not5_50 r26 m33
  else
    bi (X10_opens m12) fun r19 m19 =>
    some ((0 : Int32), m19)
abbrev rmX10_not5 : Room := { frames := 7, cells := 0, slots := 0, locals := 156 }
set_option maxRecDepth 100000 in
set_option maxHeartbeats 4000000 in
theorem w_X10_not5_66 {Γ : Ga} {b : Nat} {ad : Nat → Nat} {nt : Nat} {z : Nat → Nat} {r9 : Int32} {m9 : Mem} (X : Cx Γ b cX10_not5 4 RX10 (some .int) rmX10_not5) (hret : ∀ (pc : Nat) (lv : List (Nat × Value)), decode cX10_not5 pc = .ok (.ireturn, 1) → narrow .int (.int r9) = .int r9 → Go Γ b (sg ad nt z) 0 0 pc lv [.int r9] m9) (v1 : Int32) (s0 : Int32) (m0 : Mem) (hf : X10_not5_66 v1 s0 m0 = some (r9, m9)) : Go Γ b (sg ad nt z) 0 0 66 [(0, .ref (ad 63)), (1, .int v1)] [.int s0] m0 := by
  refine g_istore_n X (lv' := [(2, .int s0), (0, .ref (ad 63)), (1, .int v1)]) dX10_not5_66 rfl (by decide) rfl ?_
  refine g_aload_n X 1 dX10_not5_67 rfl rfl ?_
  obtain ⟨m68, h68, hf⟩ := bv_i hf
  refine g_eVV X 63 9 [] kV_X10_196 (c_X10_next h68) dX10_not5_68 rfl rfl (sgN (by decide)) rfl (by decide) rfl rfl ⟨(Nat.le_of_ble_eq_true rfl), (Nat.le_of_ble_eq_true rfl)⟩ ⟨rfl, rfl⟩ ⟨(Nat.zero_le _), (Nat.zero_le _)⟩ (Nat.le_of_ble_eq_true rfl) ?_
  refine g_aload_n X 1 dX10_not5_71 rfl rfl ?_
  obtain ⟨r72, m72, h72, hf⟩ := bi_i hf
  refine g_eVI X 63 9 [] kV_X10_240 (c_X10_added5 h72) dX10_not5_72 rfl rfl (sgN (by decide)) rfl (by decide) rfl rfl ⟨(Nat.le_of_ble_eq_true rfl), (Nat.le_of_ble_eq_true rfl)⟩ ⟨rfl, rfl⟩ ⟨(Nat.zero_le _), (Nat.zero_le _)⟩ (Nat.le_of_ble_eq_true rfl) ?_
  refine g_istore_n X (lv' := [(3, .int r72), (2, .int s0), (0, .ref (ad 63)), (1, .int v1)]) dX10_not5_75 rfl (by decide) rfl ?_
  refine g_iload_n X 1 dX10_not5_76 rfl rfl ?_
  refine g_if_eq X (tgt := 88) dX10_not5_77 (by decide) (fun c77 => ?_) (fun c77 => ?_)
  · have hf := it c77 hf
    refine g_iload_n X 3 dX10_not5_88 rfl rfl ?_
    refine g_iload_n X 0 dX10_not5_89 rfl rfl ?_
    refine g_icmp_ne X (tgt := 97) dX10_not5_90 (by decide) (fun c90 => ?_) (fun c90 => ?_)
    · have hf := ie c90 hf
      refine g_iconst X (v := 0) dX10_not5_97 (by decide) ?_
      obtain ⟨rfl, rfl⟩ := lf2 hf
      exact hret 98 _ dX10_not5_98 rfl
    · have hf := it c90 hf
      refine g_iconst X (v := 1) dX10_not5_93 (by decide) ?_
      refine g_goto X (tgt := 98) dX10_not5_94 (by decide) ?_
      obtain ⟨rfl, rfl⟩ := lf2 hf
      exact hret 98 _ dX10_not5_98 rfl
  · have hf := ie c77 hf
    refine g_iload_n X 3 dX10_not5_80 rfl rfl ?_
    refine g_iload_n X 0 dX10_not5_81 rfl rfl ?_
    refine g_icmp_ge X (tgt := 97) dX10_not5_82 (by decide) (fun c82 => ?_) (fun c82 => ?_)
    · have hf := it c82 hf
      refine g_iconst X (v := 0) dX10_not5_97 (by decide) ?_
      obtain ⟨rfl, rfl⟩ := lf2 hf
      exact hret 98 _ dX10_not5_98 rfl
    · have hf := ie c82 hf
      refine g_goto X (tgt := 93) dX10_not5_85 (by decide) ?_
      refine g_iconst X (v := 1) dX10_not5_93 (by decide) ?_
      refine g_goto X (tgt := 98) dX10_not5_94 (by decide) ?_
      obtain ⟨rfl, rfl⟩ := lf2 hf
      exact hret 98 _ dX10_not5_98 rfl
set_option maxRecDepth 100000 in
set_option maxHeartbeats 4000000 in
theorem w_X10_not5_50 {Γ : Ga} {b : Nat} {ad : Nat → Nat} {nt : Nat} {z : Nat → Nat} {r9 : Int32} {m9 : Mem} (X : Cx Γ b cX10_not5 4 RX10 (some .int) rmX10_not5) (hret : ∀ (pc : Nat) (lv : List (Nat × Value)), decode cX10_not5 pc = .ok (.ireturn, 1) → narrow .int (.int r9) = .int r9 → Go Γ b (sg ad nt z) 0 0 pc lv [.int r9] m9) (v1 : Int32) (m0 : Mem) (hf : X10_not5_50 v1 m0 = some (r9, m9)) : Go Γ b (sg ad nt z) 0 0 50 [(0, .ref (ad 63)), (1, .int v1)] [] m0 := by
  refine g_aload_n X 0 dX10_not5_50 rfl rfl ?_
  refine g_getJ X 63 9 24 dX10_not5_51 (sgN (by decide)) rfl (by decide) rfl iw_X10 (by decide) rfl q_fl_X10_176 ?_
  refine g_ldc2 X dX10_not5_54 q_cl_X10_243 ?_
  refine g_lcmp X dX10_not5_57 ?_
  refine g_if_ne X (tgt := 65) dX10_not5_58 (by decide) (fun c58 => ?_) (fun c58 => ?_)
  · have hf := ie c58 hf
    refine g_iconst X (v := 0) dX10_not5_65 (by decide) ?_
    exact w_X10_not5_66 X hret v1 (0 : Int32) m0 hf
  · have hf := it c58 hf
    refine g_iconst X (v := 1) dX10_not5_61 (by decide) ?_
    refine g_goto X (tgt := 66) dX10_not5_62 (by decide) ?_
    exact w_X10_not5_66 X hret v1 (1 : Int32) m0 hf
set_option maxRecDepth 100000 in
set_option maxHeartbeats 4000000 in
theorem c_X10_not5 {l : Launch} {G : GG} {b : Nat} {ad : Nat → Nat} {nt : Nat} {z : Nat → Nat} {m0 : Mem} {r9 : Int32} {m9 : Mem} (hf : X10_not5 m0 = some (r9, m9)) : MtI l yX10_not5 cX10_not5 4 (some .int) rmX10_not5 G b (sg ad nt z) m0 [.ref (ad 63)] (pEI r9 (sg ad nt z) m9) := by
  refine mtI_of (by decide) (Nat.le_of_ble_eq_true rfl) .int rfl (fun Γ hG X hnm hr => ?_)
  have hret : ∀ (pc : Nat) (lv : List (Nat × Value)), decode cX10_not5 pc = .ok (.ireturn, 1) → narrow .int (.int r9) = .int r9 → Go Γ b (sg ad nt z) 0 0 pc lv [.int r9] m9 := fun pc lv d hn => hr pc lv _ _ _ d ⟨rfl, rfl, rfl⟩ hn
  show Go Γ b (sg ad nt z) 0 0 0 [(0, .ref (ad 63))] [] m0
  refine g_aload_n X 0 dX10_not5_0 rfl rfl ?_
  refine g_bipush X (v := 110) dX10_not5_1 (by decide) ?_
  refine g_bipush X (v := 111) dX10_not5_3 (by decide) ?_
  refine g_bipush X (v := 116) dX10_not5_5 (by decide) ?_
  refine g_iconst X (v := 0) dX10_not5_7 (by decide) ?_
  refine g_iconst X (v := 0) dX10_not5_8 (by decide) ?_
  refine g_iconst X (v := 0) dX10_not5_9 (by decide) ?_
  refine g_iconst X (v := 0) dX10_not5_10 (by decide) ?_
  refine g_iconst X (v := 0) dX10_not5_11 (by decide) ?_
  obtain ⟨r12, m12, h12, hf⟩ := bi_i hf
  refine g_eVI X 63 9 [.int (110 : Int32), .int (111 : Int32), .int (116 : Int32), .int (0 : Int32), .int (0 : Int32), .int (0 : Int32), .int (0 : Int32), .int (0 : Int32)] kV_X10_199 (c_X10_isWord h12) dX10_not5_12 rfl rfl (sgN (by decide)) rfl (by decide) rfl rfl ⟨(Nat.le_of_ble_eq_true rfl), (Nat.le_of_ble_eq_true rfl)⟩ ⟨rfl, rfl⟩ ⟨(Nat.zero_le _), (Nat.zero_le _)⟩ (Nat.le_of_ble_eq_true rfl) ?_
  refine g_if_eq X (tgt := 25) dX10_not5_15 (by decide) (fun c15 => ?_) (fun c15 => ?_)
  · have hf := it c15 hf
    refine g_aload_n X 0 dX10_not5_25 rfl rfl ?_
    obtain ⟨r26, m26, h26, hf⟩ := bi_i hf
    refine g_eVI X 63 9 [] kV_X10_240 (c_X10_added5 h26) dX10_not5_26 rfl rfl (sgN (by decide)) rfl (by decide) rfl rfl ⟨(Nat.le_of_ble_eq_true rfl), (Nat.le_of_ble_eq_true rfl)⟩ ⟨rfl, rfl⟩ ⟨(Nat.zero_le _), (Nat.zero_le _)⟩ (Nat.le_of_ble_eq_true rfl) ?_
    refine g_istore_n X (lv' := [(1, .int r26), (0, .ref (ad 63))]) dX10_not5_29 rfl (by decide) rfl ?_
    refine g_aload_n X 1 dX10_not5_30 rfl rfl ?_
    refine g_bipush X (v := 60) dX10_not5_31 (by decide) ?_
    obtain ⟨r33, m33, h33, hf⟩ := bi_i hf
    refine g_eVI X 63 9 [.int (60 : Int32)] kV_X10_221 (c_X10_isSign h33) dX10_not5_33 rfl rfl (sgN (by decide)) rfl (by decide) rfl rfl ⟨(Nat.le_of_ble_eq_true rfl), (Nat.le_of_ble_eq_true rfl)⟩ ⟨rfl, rfl⟩ ⟨(Nat.zero_le _), (Nat.zero_le _)⟩ (Nat.le_of_ble_eq_true rfl) ?_
    refine g_if_ne X (tgt := 50) dX10_not5_36 (by decide) (fun c36 => ?_) (fun c36 => ?_)
    · have hf := ie c36 hf
      refine g_pick [1, 0] (lv' := [(0, .ref (ad 63)), (1, .int r26)]) rfl ?_
      exact w_X10_not5_50 X hret r26 m33 hf
    · have hf := it c36 hf
      refine g_aload_n X 1 dX10_not5_39 rfl rfl ?_
      refine g_bipush X (v := 61) dX10_not5_40 (by decide) ?_
      obtain ⟨r42, m42, h42, hf⟩ := bi_i hf
      refine g_eVI X 63 9 [.int (61 : Int32)] kV_X10_221 (c_X10_isSign h42) dX10_not5_42 rfl rfl (sgN (by decide)) rfl (by decide) rfl rfl ⟨(Nat.le_of_ble_eq_true rfl), (Nat.le_of_ble_eq_true rfl)⟩ ⟨rfl, rfl⟩ ⟨(Nat.zero_le _), (Nat.zero_le _)⟩ (Nat.le_of_ble_eq_true rfl) ?_
      refine g_if_ne X (tgt := 50) dX10_not5_45 (by decide) (fun c45 => ?_) (fun c45 => ?_)
      · have hf := ie c45 hf
        refine g_pick [1, 0] (lv' := [(0, .ref (ad 63)), (1, .int r26)]) rfl ?_
        exact w_X10_not5_50 X hret r26 m42 hf
      · have hf := it c45 hf
        refine g_iload_n X 0 dX10_not5_48 rfl rfl ?_
        obtain ⟨rfl, rfl⟩ := lf2 hf
        exact hret 49 _ dX10_not5_49 rfl
  · have hf := ie c15 hf
    refine g_aload_n X 0 dX10_not5_18 rfl rfl ?_
    obtain ⟨r19, m19, h19, hf⟩ := bi_i hf
    refine g_eVI X 63 9 [] kV_X10_224 (c_X10_opens h19) dX10_not5_19 rfl rfl (sgN (by decide)) rfl (by decide) rfl rfl ⟨(Nat.le_of_ble_eq_true rfl), (Nat.le_of_ble_eq_true rfl)⟩ ⟨rfl, rfl⟩ ⟨(Nat.zero_le _), (Nat.zero_le _)⟩ (Nat.le_of_ble_eq_true rfl) ?_
    refine g_pop X dX10_not5_22 rfl ?_
    refine g_iconst X (v := 0) dX10_not5_23 (by decide) ?_
    obtain ⟨rfl, rfl⟩ := lf2 hf
    exact hret 24 _ dX10_not5_24 rfl

theorem kV_X10_245 : wcV RX10 245 RX10 yX10_not5 cX10_not5 4 (some .int) 0 := ⟨q_ml_X10_245, q_im_yX10_not5, q_se_yX10_not5, q_in_X10, q_co_yX10_not5, by decide +kernel⟩

def X10_both5_45 (k5 : Int32 → Mem → Option (Int32 × Mem)) (s0 : Int32) (m0 : Mem) : Option (Int32 × Mem) :=
  k5 s0 m0
def X10_both5_44 (k5 : Int32 → Mem → Option (Int32 × Mem)) (m0 : Mem) : Option (Int32 × Mem) :=
  X10_both5_45 k5 (0 : Int32) m0
def X10_both5_5 : Nat → Int32 → Mem → Option (Int32 × Mem)
  | 0, _, _ => none
  | n + 1, v1, m0 =>
    bi (X10_isWord (97 : Int32) (110 : Int32) (100 : Int32) (0 : Int32) (0 : Int32) (0 : Int32) (0 : Int32) (0 : Int32) m0) fun r17 m17 =>
    if r17 = 0 then
      some (v1, m17)
    else
      bv (X10_next m17) fun m24 =>
      bi (X10_not5 m24) fun r28 m28 =>
      if v1 = 0 then
        X10_both5_44 (X10_both5_5 n) m28
      else
        if r28 = 0 then
          X10_both5_44 (X10_both5_5 n) m28
        else
          X10_both5_45 (X10_both5_5 n) (1 : Int32) m28
def X10_both5 (m0 : Mem) : Option (Int32 × Mem) :=
  bi (X10_not5 m0) fun r1 m1 =>
  X10_both5_5 10000 r1 m1
abbrev rmX10_both5 : Room := { frames := 8, cells := 0, slots := 0, locals := 179 }
set_option maxRecDepth 100000 in
set_option maxHeartbeats 4000000 in
theorem w_X10_both5_45 {Γ : Ga} {b : Nat} {ad : Nat → Nat} {nt : Nat} {z : Nat → Nat} {k5 : Int32 → Mem → Option (Int32 × Mem)} {r9 : Int32} {m9 : Mem} (X : Cx Γ b cX10_both5 3 RX10 (some .int) rmX10_both5) (hret : ∀ (pc : Nat) (lv : List (Nat × Value)), decode cX10_both5 pc = .ok (.ireturn, 1) → narrow .int (.int r9) = .int r9 → Go Γ b (sg ad nt z) 0 0 pc lv [.int r9] m9) (hk5 : ∀ (v1 : Int32) (m0 : Mem), k5 v1 m0 = some (r9, m9) → Go Γ b (sg ad nt z) 0 0 5 [(0, .ref (ad 63)), (1, .int v1)] [] m0) (s0 : Int32) (m0 : Mem) (hf : X10_both5_45 k5 s0 m0 = some (r9, m9)) : Go Γ b (sg ad nt z) 0 0 45 [(0, .ref (ad 63))] [.int s0] m0 := by
  refine g_istore_n X (lv' := [(1, .int s0), (0, .ref (ad 63))]) dX10_both5_45 rfl (by decide) rfl ?_
  refine g_goto X (tgt := 5) dX10_both5_46 (by decide) ?_
  refine g_pick [1, 0] (lv' := [(0, .ref (ad 63)), (1, .int s0)]) rfl ?_
  exact hk5 s0 m0 hf
set_option maxRecDepth 100000 in
set_option maxHeartbeats 4000000 in
theorem w_X10_both5_44 {Γ : Ga} {b : Nat} {ad : Nat → Nat} {nt : Nat} {z : Nat → Nat} {k5 : Int32 → Mem → Option (Int32 × Mem)} {r9 : Int32} {m9 : Mem} (X : Cx Γ b cX10_both5 3 RX10 (some .int) rmX10_both5) (hret : ∀ (pc : Nat) (lv : List (Nat × Value)), decode cX10_both5 pc = .ok (.ireturn, 1) → narrow .int (.int r9) = .int r9 → Go Γ b (sg ad nt z) 0 0 pc lv [.int r9] m9) (hk5 : ∀ (v1 : Int32) (m0 : Mem), k5 v1 m0 = some (r9, m9) → Go Γ b (sg ad nt z) 0 0 5 [(0, .ref (ad 63)), (1, .int v1)] [] m0) (m0 : Mem) (hf : X10_both5_44 k5 m0 = some (r9, m9)) : Go Γ b (sg ad nt z) 0 0 44 [(0, .ref (ad 63))] [] m0 := by
  refine g_iconst X (v := 0) dX10_both5_44 (by decide) ?_
  exact w_X10_both5_45 X hret hk5 (0 : Int32) m0 hf
set_option maxRecDepth 100000 in
set_option maxHeartbeats 4000000 in
theorem w_X10_both5_5 {Γ : Ga} {b : Nat} {ad : Nat → Nat} {nt : Nat} {z : Nat → Nat} {r9 : Int32} {m9 : Mem} (X : Cx Γ b cX10_both5 3 RX10 (some .int) rmX10_both5) (hret : ∀ (pc : Nat) (lv : List (Nat × Value)), decode cX10_both5 pc = .ok (.ireturn, 1) → narrow .int (.int r9) = .int r9 → Go Γ b (sg ad nt z) 0 0 pc lv [.int r9] m9) : ∀ (n : Nat) (v1 : Int32) (m0 : Mem), X10_both5_5 n v1 m0 = some (r9, m9) → Go Γ b (sg ad nt z) 0 0 5 [(0, .ref (ad 63)), (1, .int v1)] [] m0 := by
  intro n
  induction n with
  | zero =>
    intro v1 m0 hf
    cases hf
  | succ n ih =>
    intro v1 m0 hf
    refine g_aload_n X 0 dX10_both5_5 rfl rfl ?_
    refine g_bipush X (v := 97) dX10_both5_6 (by decide) ?_
    refine g_bipush X (v := 110) dX10_both5_8 (by decide) ?_
    refine g_bipush X (v := 100) dX10_both5_10 (by decide) ?_
    refine g_iconst X (v := 0) dX10_both5_12 (by decide) ?_
    refine g_iconst X (v := 0) dX10_both5_13 (by decide) ?_
    refine g_iconst X (v := 0) dX10_both5_14 (by decide) ?_
    refine g_iconst X (v := 0) dX10_both5_15 (by decide) ?_
    refine g_iconst X (v := 0) dX10_both5_16 (by decide) ?_
    obtain ⟨r17, m17, h17, hf⟩ := bi_i hf
    refine g_eVI X 63 9 [.int (97 : Int32), .int (110 : Int32), .int (100 : Int32), .int (0 : Int32), .int (0 : Int32), .int (0 : Int32), .int (0 : Int32), .int (0 : Int32)] kV_X10_199 (c_X10_isWord h17) dX10_both5_17 rfl rfl (sgN (by decide)) rfl (by decide) rfl rfl ⟨(Nat.le_of_ble_eq_true rfl), (Nat.le_of_ble_eq_true rfl)⟩ ⟨rfl, rfl⟩ ⟨(Nat.zero_le _), (Nat.zero_le _)⟩ (Nat.le_of_ble_eq_true rfl) ?_
    refine g_if_eq X (tgt := 49) dX10_both5_20 (by decide) (fun c20 => ?_) (fun c20 => ?_)
    · have hf := it c20 hf
      refine g_iload_n X 1 dX10_both5_49 rfl rfl ?_
      obtain ⟨rfl, rfl⟩ := lf2 hf
      exact hret 50 _ dX10_both5_50 rfl
    · have hf := ie c20 hf
      refine g_aload_n X 0 dX10_both5_23 rfl rfl ?_
      obtain ⟨m24, h24, hf⟩ := bv_i hf
      refine g_eVV X 63 9 [] kV_X10_196 (c_X10_next h24) dX10_both5_24 rfl rfl (sgN (by decide)) rfl (by decide) rfl rfl ⟨(Nat.le_of_ble_eq_true rfl), (Nat.le_of_ble_eq_true rfl)⟩ ⟨rfl, rfl⟩ ⟨(Nat.zero_le _), (Nat.zero_le _)⟩ (Nat.le_of_ble_eq_true rfl) ?_
      refine g_aload_n X 0 dX10_both5_27 rfl rfl ?_
      obtain ⟨r28, m28, h28, hf⟩ := bi_i hf
      refine g_eVI X 63 9 [] kV_X10_245 (c_X10_not5 h28) dX10_both5_28 rfl rfl (sgN (by decide)) rfl (by decide) rfl rfl ⟨(Nat.le_of_ble_eq_true rfl), (Nat.le_of_ble_eq_true rfl)⟩ ⟨rfl, rfl⟩ ⟨(Nat.zero_le _), (Nat.zero_le _)⟩ (Nat.le_of_ble_eq_true rfl) ?_
      refine g_istore_n X (lv' := [(2, .int r28), (0, .ref (ad 63)), (1, .int v1)]) dX10_both5_31 rfl (by decide) rfl ?_
      refine g_iload_n X 2 dX10_both5_32 rfl rfl ?_
      refine g_if_eq X (tgt := 44) dX10_both5_33 (by decide) (fun c33 => ?_) (fun c33 => ?_)
      · have hf := it c33 hf
        refine g_pick [1] (lv' := [(0, .ref (ad 63))]) rfl ?_
        exact w_X10_both5_44 X hret ih m28 hf
      · have hf := ie c33 hf
        refine g_iload_n X 0 dX10_both5_36 rfl rfl ?_
        refine g_if_eq X (tgt := 44) dX10_both5_37 (by decide) (fun c37 => ?_) (fun c37 => ?_)
        · have hf := it c37 hf
          refine g_pick [1] (lv' := [(0, .ref (ad 63))]) rfl ?_
          exact w_X10_both5_44 X hret ih m28 hf
        · have hf := ie c37 hf
          refine g_iconst X (v := 1) dX10_both5_40 (by decide) ?_
          refine g_goto X (tgt := 45) dX10_both5_41 (by decide) ?_
          refine g_pick [1] (lv' := [(0, .ref (ad 63))]) rfl ?_
          exact w_X10_both5_45 X hret ih (1 : Int32) m28 hf
set_option maxRecDepth 100000 in
set_option maxHeartbeats 4000000 in
theorem c_X10_both5 {l : Launch} {G : GG} {b : Nat} {ad : Nat → Nat} {nt : Nat} {z : Nat → Nat} {m0 : Mem} {r9 : Int32} {m9 : Mem} (hf : X10_both5 m0 = some (r9, m9)) : MtI l yX10_both5 cX10_both5 3 (some .int) rmX10_both5 G b (sg ad nt z) m0 [.ref (ad 63)] (pEI r9 (sg ad nt z) m9) := by
  refine mtI_of (by decide) (Nat.le_of_ble_eq_true rfl) .int rfl (fun Γ hG X hnm hr => ?_)
  have hret : ∀ (pc : Nat) (lv : List (Nat × Value)), decode cX10_both5 pc = .ok (.ireturn, 1) → narrow .int (.int r9) = .int r9 → Go Γ b (sg ad nt z) 0 0 pc lv [.int r9] m9 := fun pc lv d hn => hr pc lv _ _ _ d ⟨rfl, rfl, rfl⟩ hn
  show Go Γ b (sg ad nt z) 0 0 0 [(0, .ref (ad 63))] [] m0
  refine g_aload_n X 0 dX10_both5_0 rfl rfl ?_
  obtain ⟨r1, m1, h1, hf⟩ := bi_i hf
  refine g_eVI X 63 9 [] kV_X10_245 (c_X10_not5 h1) dX10_both5_1 rfl rfl (sgN (by decide)) rfl (by decide) rfl rfl ⟨(Nat.le_of_ble_eq_true rfl), (Nat.le_of_ble_eq_true rfl)⟩ ⟨rfl, rfl⟩ ⟨(Nat.zero_le _), (Nat.zero_le _)⟩ (Nat.le_of_ble_eq_true rfl) ?_
  refine g_istore_n X (lv' := [(1, .int r1), (0, .ref (ad 63))]) dX10_both5_4 rfl (by decide) rfl ?_
  refine g_pick [1, 0] (lv' := [(0, .ref (ad 63)), (1, .int r1)]) rfl ?_
  exact w_X10_both5_5 X hret 10000 r1 m1 hf

theorem kV_X10_248 : wcV RX10 248 RX10 yX10_both5 cX10_both5 3 (some .int) 0 := ⟨q_ml_X10_248, q_im_yX10_both5, q_se_yX10_both5, q_in_X10, q_co_yX10_both5, by decide +kernel⟩

def X10_either5_44 (k5 : Int32 → Mem → Option (Int32 × Mem)) (s0 : Int32) (m0 : Mem) : Option (Int32 × Mem) :=
  k5 s0 m0
def X10_either5_39 (k5 : Int32 → Mem → Option (Int32 × Mem)) (m0 : Mem) : Option (Int32 × Mem) :=
  X10_either5_44 k5 (1 : Int32) m0
def X10_either5_5 : Nat → Int32 → Mem → Option (Int32 × Mem)
  | 0, _, _ => none
  | n + 1, v1, m0 =>
    bi (X10_isWord (111 : Int32) (114 : Int32) (0 : Int32) (0 : Int32) (0 : Int32) (0 : Int32) (0 : Int32) (0 : Int32) m0) fun r16 m16 =>
    if r16 = 0 then
      some (v1, m16)
    else
      bv (X10_next m16) fun m23 =>
      bi (X10_both5 m23) fun r27 m27 =>
      if v1 = 0 then
        if r27 = 0 then
          X10_either5_44 (X10_either5_5 n) (0 : Int32) m27
        else
          X10_either5_39 (X10_either5_5 n) m27
      else
        X10_either5_39 (X10_either5_5 n) m27
def X10_either5 (m0 : Mem) : Option (Int32 × Mem) :=
  bi (X10_both5 m0) fun r1 m1 =>
  X10_either5_5 10000 r1 m1
abbrev rmX10_either5 : Room := { frames := 9, cells := 0, slots := 0, locals := 201 }
set_option maxRecDepth 100000 in
set_option maxHeartbeats 4000000 in
theorem w_X10_either5_44 {Γ : Ga} {b : Nat} {ad : Nat → Nat} {nt : Nat} {z : Nat → Nat} {k5 : Int32 → Mem → Option (Int32 × Mem)} {r9 : Int32} {m9 : Mem} (X : Cx Γ b cX10_either5 3 RX10 (some .int) rmX10_either5) (hret : ∀ (pc : Nat) (lv : List (Nat × Value)), decode cX10_either5 pc = .ok (.ireturn, 1) → narrow .int (.int r9) = .int r9 → Go Γ b (sg ad nt z) 0 0 pc lv [.int r9] m9) (hk5 : ∀ (v1 : Int32) (m0 : Mem), k5 v1 m0 = some (r9, m9) → Go Γ b (sg ad nt z) 0 0 5 [(0, .ref (ad 63)), (1, .int v1)] [] m0) (s0 : Int32) (m0 : Mem) (hf : X10_either5_44 k5 s0 m0 = some (r9, m9)) : Go Γ b (sg ad nt z) 0 0 44 [(0, .ref (ad 63))] [.int s0] m0 := by
  refine g_istore_n X (lv' := [(1, .int s0), (0, .ref (ad 63))]) dX10_either5_44 rfl (by decide) rfl ?_
  refine g_goto X (tgt := 5) dX10_either5_45 (by decide) ?_
  refine g_pick [1, 0] (lv' := [(0, .ref (ad 63)), (1, .int s0)]) rfl ?_
  exact hk5 s0 m0 hf
set_option maxRecDepth 100000 in
set_option maxHeartbeats 4000000 in
theorem w_X10_either5_39 {Γ : Ga} {b : Nat} {ad : Nat → Nat} {nt : Nat} {z : Nat → Nat} {k5 : Int32 → Mem → Option (Int32 × Mem)} {r9 : Int32} {m9 : Mem} (X : Cx Γ b cX10_either5 3 RX10 (some .int) rmX10_either5) (hret : ∀ (pc : Nat) (lv : List (Nat × Value)), decode cX10_either5 pc = .ok (.ireturn, 1) → narrow .int (.int r9) = .int r9 → Go Γ b (sg ad nt z) 0 0 pc lv [.int r9] m9) (hk5 : ∀ (v1 : Int32) (m0 : Mem), k5 v1 m0 = some (r9, m9) → Go Γ b (sg ad nt z) 0 0 5 [(0, .ref (ad 63)), (1, .int v1)] [] m0) (m0 : Mem) (hf : X10_either5_39 k5 m0 = some (r9, m9)) : Go Γ b (sg ad nt z) 0 0 39 [(0, .ref (ad 63))] [] m0 := by
  refine g_iconst X (v := 1) dX10_either5_39 (by decide) ?_
  refine g_goto X (tgt := 44) dX10_either5_40 (by decide) ?_
  exact w_X10_either5_44 X hret hk5 (1 : Int32) m0 hf
set_option maxRecDepth 100000 in
set_option maxHeartbeats 4000000 in
theorem w_X10_either5_5 {Γ : Ga} {b : Nat} {ad : Nat → Nat} {nt : Nat} {z : Nat → Nat} {r9 : Int32} {m9 : Mem} (X : Cx Γ b cX10_either5 3 RX10 (some .int) rmX10_either5) (hret : ∀ (pc : Nat) (lv : List (Nat × Value)), decode cX10_either5 pc = .ok (.ireturn, 1) → narrow .int (.int r9) = .int r9 → Go Γ b (sg ad nt z) 0 0 pc lv [.int r9] m9) : ∀ (n : Nat) (v1 : Int32) (m0 : Mem), X10_either5_5 n v1 m0 = some (r9, m9) → Go Γ b (sg ad nt z) 0 0 5 [(0, .ref (ad 63)), (1, .int v1)] [] m0 := by
  intro n
  induction n with
  | zero =>
    intro v1 m0 hf
    cases hf
  | succ n ih =>
    intro v1 m0 hf
    refine g_aload_n X 0 dX10_either5_5 rfl rfl ?_
    refine g_bipush X (v := 111) dX10_either5_6 (by decide) ?_
    refine g_bipush X (v := 114) dX10_either5_8 (by decide) ?_
    refine g_iconst X (v := 0) dX10_either5_10 (by decide) ?_
    refine g_iconst X (v := 0) dX10_either5_11 (by decide) ?_
    refine g_iconst X (v := 0) dX10_either5_12 (by decide) ?_
    refine g_iconst X (v := 0) dX10_either5_13 (by decide) ?_
    refine g_iconst X (v := 0) dX10_either5_14 (by decide) ?_
    refine g_iconst X (v := 0) dX10_either5_15 (by decide) ?_
    obtain ⟨r16, m16, h16, hf⟩ := bi_i hf
    refine g_eVI X 63 9 [.int (111 : Int32), .int (114 : Int32), .int (0 : Int32), .int (0 : Int32), .int (0 : Int32), .int (0 : Int32), .int (0 : Int32), .int (0 : Int32)] kV_X10_199 (c_X10_isWord h16) dX10_either5_16 rfl rfl (sgN (by decide)) rfl (by decide) rfl rfl ⟨(Nat.le_of_ble_eq_true rfl), (Nat.le_of_ble_eq_true rfl)⟩ ⟨rfl, rfl⟩ ⟨(Nat.zero_le _), (Nat.zero_le _)⟩ (Nat.le_of_ble_eq_true rfl) ?_
    refine g_if_eq X (tgt := 48) dX10_either5_19 (by decide) (fun c19 => ?_) (fun c19 => ?_)
    · have hf := it c19 hf
      refine g_iload_n X 1 dX10_either5_48 rfl rfl ?_
      obtain ⟨rfl, rfl⟩ := lf2 hf
      exact hret 49 _ dX10_either5_49 rfl
    · have hf := ie c19 hf
      refine g_aload_n X 0 dX10_either5_22 rfl rfl ?_
      obtain ⟨m23, h23, hf⟩ := bv_i hf
      refine g_eVV X 63 9 [] kV_X10_196 (c_X10_next h23) dX10_either5_23 rfl rfl (sgN (by decide)) rfl (by decide) rfl rfl ⟨(Nat.le_of_ble_eq_true rfl), (Nat.le_of_ble_eq_true rfl)⟩ ⟨rfl, rfl⟩ ⟨(Nat.zero_le _), (Nat.zero_le _)⟩ (Nat.le_of_ble_eq_true rfl) ?_
      refine g_aload_n X 0 dX10_either5_26 rfl rfl ?_
      obtain ⟨r27, m27, h27, hf⟩ := bi_i hf
      refine g_eVI X 63 9 [] kV_X10_248 (c_X10_both5 h27) dX10_either5_27 rfl rfl (sgN (by decide)) rfl (by decide) rfl rfl ⟨(Nat.le_of_ble_eq_true rfl), (Nat.le_of_ble_eq_true rfl)⟩ ⟨rfl, rfl⟩ ⟨(Nat.zero_le _), (Nat.zero_le _)⟩ (Nat.le_of_ble_eq_true rfl) ?_
      refine g_istore_n X (lv' := [(2, .int r27), (0, .ref (ad 63)), (1, .int v1)]) dX10_either5_30 rfl (by decide) rfl ?_
      refine g_iload_n X 2 dX10_either5_31 rfl rfl ?_
      refine g_if_ne X (tgt := 39) dX10_either5_32 (by decide) (fun c32 => ?_) (fun c32 => ?_)
      · have hf := ie c32 hf
        refine g_pick [1] (lv' := [(0, .ref (ad 63))]) rfl ?_
        exact w_X10_either5_39 X hret ih m27 hf
      · have hf := it c32 hf
        refine g_iload_n X 0 dX10_either5_35 rfl rfl ?_
        refine g_if_eq X (tgt := 43) dX10_either5_36 (by decide) (fun c36 => ?_) (fun c36 => ?_)
        · have hf := it c36 hf
          refine g_iconst X (v := 0) dX10_either5_43 (by decide) ?_
          refine g_pick [1] (lv' := [(0, .ref (ad 63))]) rfl ?_
          exact w_X10_either5_44 X hret ih (0 : Int32) m27 hf
        · have hf := ie c36 hf
          refine g_pick [1] (lv' := [(0, .ref (ad 63))]) rfl ?_
          exact w_X10_either5_39 X hret ih m27 hf
set_option maxRecDepth 100000 in
set_option maxHeartbeats 4000000 in
theorem c_X10_either5 {l : Launch} {G : GG} {b : Nat} {ad : Nat → Nat} {nt : Nat} {z : Nat → Nat} {m0 : Mem} {r9 : Int32} {m9 : Mem} (hf : X10_either5 m0 = some (r9, m9)) : MtI l yX10_either5 cX10_either5 3 (some .int) rmX10_either5 G b (sg ad nt z) m0 [.ref (ad 63)] (pEI r9 (sg ad nt z) m9) := by
  refine mtI_of (by decide) (Nat.le_of_ble_eq_true rfl) .int rfl (fun Γ hG X hnm hr => ?_)
  have hret : ∀ (pc : Nat) (lv : List (Nat × Value)), decode cX10_either5 pc = .ok (.ireturn, 1) → narrow .int (.int r9) = .int r9 → Go Γ b (sg ad nt z) 0 0 pc lv [.int r9] m9 := fun pc lv d hn => hr pc lv _ _ _ d ⟨rfl, rfl, rfl⟩ hn
  show Go Γ b (sg ad nt z) 0 0 0 [(0, .ref (ad 63))] [] m0
  refine g_aload_n X 0 dX10_either5_0 rfl rfl ?_
  obtain ⟨r1, m1, h1, hf⟩ := bi_i hf
  refine g_eVI X 63 9 [] kV_X10_248 (c_X10_both5 h1) dX10_either5_1 rfl rfl (sgN (by decide)) rfl (by decide) rfl rfl ⟨(Nat.le_of_ble_eq_true rfl), (Nat.le_of_ble_eq_true rfl)⟩ ⟨rfl, rfl⟩ ⟨(Nat.zero_le _), (Nat.zero_le _)⟩ (Nat.le_of_ble_eq_true rfl) ?_
  refine g_istore_n X (lv' := [(1, .int r1), (0, .ref (ad 63))]) dX10_either5_4 rfl (by decide) rfl ?_
  refine g_pick [1, 0] (lv' := [(0, .ref (ad 63)), (1, .int r1)]) rfl ?_
  exact w_X10_either5_5 X hret 10000 r1 m1 hf

theorem kV_X10_251 : wcV RX10 251 RX10 yX10_either5 cX10_either5 3 (some .int) 0 := ⟨q_ml_X10_251, q_im_yX10_either5, q_se_yX10_either5, q_in_X10, q_co_yX10_either5, by decide +kernel⟩

def X10_atom4_157 (v1 : Int32) (m0 : Mem) : Option (Int32 × Mem) :=
  bv (X10_fail m0) fun m158 =>
  some (v1, m158)
def X10_atom4_123 (v1 : Int32) (m0 : Mem) : Option (Int32 × Mem) :=
  if (m0.1 63 26) = 0 then
    if (m0.1 63 22) = (1 : Int32) then
      bi (X10_name m0) fun r139 m139 =>
      if (m139.1 63 26) = 0 then
        bv (X10_next m139) fun m151 =>
        some (r139, m151)
      else
        some (r139, m139)
    else
      X10_atom4_157 v1 m0
  else
    X10_atom4_157 v1 m0
def X10_atom4_71 (v1 : Int32) (m0 : Mem) : Option (Int32 × Mem) :=
  if ((pI m0 63 25 ((m0.1 63 25) - (1 : Int32))).1 63 26) = 0 then
    bv (X10_next (pI m0 63 25 ((m0.1 63 25) - (1 : Int32)))) fun m89 =>
    some (v1, m89)
  else
    some (v1, pI m0 63 25 ((m0.1 63 25) - (1 : Int32)))
def X10_atom4 (m0 : Mem) : Option (Int32 × Mem) :=
  bi (X10_isSign (45 : Int32) m0) fun r5 m5 =>
  if r5 = 0 then
    bi (X10_isSign (40 : Int32) m5) fun r40 m40 =>
    if r40 = 0 then
      if (m40.1 63 26) = 0 then
        if (m40.1 63 22) = (2 : Int32) then
          bv (X10_next m40) fun m117 =>
          some ((m40.2 63 24).toInt32, m117)
        else
          X10_atom4_123 (0 : Int32) m40
      else
        X10_atom4_123 (0 : Int32) m40
    else
      bi (X10_opens m40) fun r47 m47 =>
      if r47 = 0 then
        some ((0 : Int32), m47)
      else
        bi (X10_either5 m47) fun r54 m54 =>
        bi (X10_isSign (41 : Int32) m54) fun r61 m61 =>
        if r61 = 0 then
          bv (X10_fail m61) fun m68 =>
          X10_atom4_71 r54 m68
        else
          X10_atom4_71 r54 m61
  else
    bi (X10_opens m5) fun r12 m12 =>
    if r12 = 0 then
      some ((0 : Int32), m12)
    else
      bi (X10_atom5 m12) fun r19 m19 =>
      some (-r19, pI m19 63 25 ((m19.1 63 25) - (1 : Int32)))
abbrev rmX10_atom4 : Room := { frames := 10, cells := 0, slots := 0, locals := 223 }
set_option maxRecDepth 100000 in
set_option maxHeartbeats 4000000 in
theorem w_X10_atom4_157 {Γ : Ga} {b : Nat} {ad : Nat → Nat} {nt : Nat} {z : Nat → Nat} {r9 : Int32} {m9 : Mem} (X : Cx Γ b cX10_atom4 2 RX10 (some .int) rmX10_atom4) (hret : ∀ (pc : Nat) (lv : List (Nat × Value)), decode cX10_atom4 pc = .ok (.ireturn, 1) → narrow .int (.int r9) = .int r9 → Go Γ b (sg ad nt z) 0 0 pc lv [.int r9] m9) (v1 : Int32) (m0 : Mem) (hf : X10_atom4_157 v1 m0 = some (r9, m9)) : Go Γ b (sg ad nt z) 0 0 157 [(0, .ref (ad 63)), (1, .int v1)] [] m0 := by
  refine g_aload_n X 0 dX10_atom4_157 rfl rfl ?_
  obtain ⟨m158, h158, hf⟩ := bv_i hf
  refine g_eVV X 63 9 [] kV_X10_193 (c_X10_fail h158) dX10_atom4_158 rfl rfl (sgN (by decide)) rfl (by decide) rfl rfl ⟨(Nat.le_of_ble_eq_true rfl), (Nat.le_of_ble_eq_true rfl)⟩ ⟨rfl, rfl⟩ ⟨(Nat.zero_le _), (Nat.zero_le _)⟩ (Nat.le_of_ble_eq_true rfl) ?_
  refine g_iload_n X 1 dX10_atom4_161 rfl rfl ?_
  obtain ⟨rfl, rfl⟩ := lf2 hf
  exact hret 162 _ dX10_atom4_162 rfl
set_option maxRecDepth 100000 in
set_option maxHeartbeats 4000000 in
theorem w_X10_atom4_123 {Γ : Ga} {b : Nat} {ad : Nat → Nat} {nt : Nat} {z : Nat → Nat} {r9 : Int32} {m9 : Mem} (X : Cx Γ b cX10_atom4 2 RX10 (some .int) rmX10_atom4) (hret : ∀ (pc : Nat) (lv : List (Nat × Value)), decode cX10_atom4 pc = .ok (.ireturn, 1) → narrow .int (.int r9) = .int r9 → Go Γ b (sg ad nt z) 0 0 pc lv [.int r9] m9) (v1 : Int32) (m0 : Mem) (hf : X10_atom4_123 v1 m0 = some (r9, m9)) : Go Γ b (sg ad nt z) 0 0 123 [(0, .ref (ad 63)), (1, .int v1)] [] m0 := by
  refine g_aload_n X 0 dX10_atom4_123 rfl rfl ?_
  refine g_getI X 63 9 26 dX10_atom4_124 (sgN (by decide)) rfl (by decide) rfl iw_X10 (by decide) rfl q_fl_X10_180 ?_
  refine g_if_ne X (tgt := 157) dX10_atom4_127 (by decide) (fun c127 => ?_) (fun c127 => ?_)
  · have hf := ie c127 hf
    exact w_X10_atom4_157 X hret v1 m0 hf
  · have hf := it c127 hf
    refine g_aload_n X 0 dX10_atom4_130 rfl rfl ?_
    refine g_getI X 63 9 22 dX10_atom4_131 (sgN (by decide)) rfl (by decide) rfl iw_X10 (by decide) rfl q_fl_X10_165 ?_
    refine g_iconst X (v := 1) dX10_atom4_134 (by decide) ?_
    refine g_icmp_ne X (tgt := 157) dX10_atom4_135 (by decide) (fun c135 => ?_) (fun c135 => ?_)
    · have hf := ie c135 hf
      exact w_X10_atom4_157 X hret v1 m0 hf
    · have hf := it c135 hf
      refine g_aload_n X 0 dX10_atom4_138 rfl rfl ?_
      obtain ⟨r139, m139, h139, hf⟩ := bi_i hf
      refine g_eVI X 63 9 [] kV_X10_228 (c_X10_name h139) dX10_atom4_139 rfl rfl (sgN (by decide)) rfl (by decide) rfl rfl ⟨(Nat.le_of_ble_eq_true rfl), (Nat.le_of_ble_eq_true rfl)⟩ ⟨rfl, rfl⟩ ⟨(Nat.zero_le _), (Nat.zero_le _)⟩ (Nat.le_of_ble_eq_true rfl) ?_
      refine g_istore_n X (lv' := [(1, .int r139), (0, .ref (ad 63))]) dX10_atom4_142 rfl (by decide) rfl ?_
      refine g_aload_n X 1 dX10_atom4_143 rfl rfl ?_
      refine g_getI X 63 9 26 dX10_atom4_144 (sgN (by decide)) rfl (by decide) rfl iw_X10 (by decide) rfl q_fl_X10_180 ?_
      refine g_if_ne X (tgt := 161) dX10_atom4_147 (by decide) (fun c147 => ?_) (fun c147 => ?_)
      · have hf := ie c147 hf
        refine g_iload_n X 0 dX10_atom4_161 rfl rfl ?_
        obtain ⟨rfl, rfl⟩ := lf2 hf
        exact hret 162 _ dX10_atom4_162 rfl
      · have hf := it c147 hf
        refine g_aload_n X 1 dX10_atom4_150 rfl rfl ?_
        obtain ⟨m151, h151, hf⟩ := bv_i hf
        refine g_eVV X 63 9 [] kV_X10_196 (c_X10_next h151) dX10_atom4_151 rfl rfl (sgN (by decide)) rfl (by decide) rfl rfl ⟨(Nat.le_of_ble_eq_true rfl), (Nat.le_of_ble_eq_true rfl)⟩ ⟨rfl, rfl⟩ ⟨(Nat.zero_le _), (Nat.zero_le _)⟩ (Nat.le_of_ble_eq_true rfl) ?_
        refine g_goto X (tgt := 161) dX10_atom4_154 (by decide) ?_
        refine g_iload_n X 0 dX10_atom4_161 rfl rfl ?_
        obtain ⟨rfl, rfl⟩ := lf2 hf
        exact hret 162 _ dX10_atom4_162 rfl
set_option maxRecDepth 100000 in
set_option maxHeartbeats 4000000 in
theorem w_X10_atom4_71 {Γ : Ga} {b : Nat} {ad : Nat → Nat} {nt : Nat} {z : Nat → Nat} {r9 : Int32} {m9 : Mem} (X : Cx Γ b cX10_atom4 2 RX10 (some .int) rmX10_atom4) (hret : ∀ (pc : Nat) (lv : List (Nat × Value)), decode cX10_atom4 pc = .ok (.ireturn, 1) → narrow .int (.int r9) = .int r9 → Go Γ b (sg ad nt z) 0 0 pc lv [.int r9] m9) (v1 : Int32) (m0 : Mem) (hf : X10_atom4_71 v1 m0 = some (r9, m9)) : Go Γ b (sg ad nt z) 0 0 71 [(0, .ref (ad 63)), (1, .int v1)] [] m0 := by
  refine g_aload_n X 0 dX10_atom4_71 rfl rfl ?_
  refine g_dup X dX10_atom4_72 rfl ?_
  refine g_getI X 63 9 25 dX10_atom4_73 (sgN (by decide)) rfl (by decide) rfl iw_X10 (by decide) rfl q_fl_X10_190 ?_
  refine g_iconst X (v := 1) dX10_atom4_76 (by decide) ?_
  refine g_isub X dX10_atom4_77 ?_
  refine g_putI X (tyf := tyX10) 63 9 25 dX10_atom4_78 (sgN (by decide)) rfl (by decide) rfl iw_X10 (by decide) rfl q_fl_X10_190 tyX10_ok nmX10 rfl rfl rfl ?_
  refine g_aload_n X 0 dX10_atom4_81 rfl rfl ?_
  refine g_getI X 63 9 26 dX10_atom4_82 (sgN (by decide)) rfl (by decide) rfl iw_X10 (by decide) rfl q_fl_X10_180 ?_
  refine g_if_ne X (tgt := 161) dX10_atom4_85 (by decide) (fun c85 => ?_) (fun c85 => ?_)
  · have hf := ie c85 hf
    refine g_iload_n X 1 dX10_atom4_161 rfl rfl ?_
    obtain ⟨rfl, rfl⟩ := lf2 hf
    exact hret 162 _ dX10_atom4_162 rfl
  · have hf := it c85 hf
    refine g_aload_n X 0 dX10_atom4_88 rfl rfl ?_
    obtain ⟨m89, h89, hf⟩ := bv_i hf
    refine g_eVV X 63 9 [] kV_X10_196 (c_X10_next h89) dX10_atom4_89 rfl rfl (sgN (by decide)) rfl (by decide) rfl rfl ⟨(Nat.le_of_ble_eq_true rfl), (Nat.le_of_ble_eq_true rfl)⟩ ⟨rfl, rfl⟩ ⟨(Nat.zero_le _), (Nat.zero_le _)⟩ (Nat.le_of_ble_eq_true rfl) ?_
    refine g_goto X (tgt := 161) dX10_atom4_92 (by decide) ?_
    refine g_iload_n X 1 dX10_atom4_161 rfl rfl ?_
    obtain ⟨rfl, rfl⟩ := lf2 hf
    exact hret 162 _ dX10_atom4_162 rfl
set_option maxRecDepth 100000 in
set_option maxHeartbeats 4000000 in
theorem c_X10_atom4 {l : Launch} {G : GG} {b : Nat} {ad : Nat → Nat} {nt : Nat} {z : Nat → Nat} {m0 : Mem} {r9 : Int32} {m9 : Mem} (hf : X10_atom4 m0 = some (r9, m9)) : MtI l yX10_atom4 cX10_atom4 2 (some .int) rmX10_atom4 G b (sg ad nt z) m0 [.ref (ad 63)] (pEI r9 (sg ad nt z) m9) := by
  refine mtI_of (by decide) (Nat.le_of_ble_eq_true rfl) .int rfl (fun Γ hG X hnm hr => ?_)
  have hret : ∀ (pc : Nat) (lv : List (Nat × Value)), decode cX10_atom4 pc = .ok (.ireturn, 1) → narrow .int (.int r9) = .int r9 → Go Γ b (sg ad nt z) 0 0 pc lv [.int r9] m9 := fun pc lv d hn => hr pc lv _ _ _ d ⟨rfl, rfl, rfl⟩ hn
  show Go Γ b (sg ad nt z) 0 0 0 [(0, .ref (ad 63))] [] m0
  refine g_iconst X (v := 0) dX10_atom4_0 (by decide) ?_
  refine g_istore_n X (lv' := [(1, .int (0 : Int32)), (0, .ref (ad 63))]) dX10_atom4_1 rfl (by decide) rfl ?_
  refine g_aload_n X 1 dX10_atom4_2 rfl rfl ?_
  refine g_bipush X (v := 45) dX10_atom4_3 (by decide) ?_
  obtain ⟨r5, m5, h5, hf⟩ := bi_i hf
  refine g_eVI X 63 9 [.int (45 : Int32)] kV_X10_221 (c_X10_isSign h5) dX10_atom4_5 rfl rfl (sgN (by decide)) rfl (by decide) rfl rfl ⟨(Nat.le_of_ble_eq_true rfl), (Nat.le_of_ble_eq_true rfl)⟩ ⟨rfl, rfl⟩ ⟨(Nat.zero_le _), (Nat.zero_le _)⟩ (Nat.le_of_ble_eq_true rfl) ?_
  refine g_if_eq X (tgt := 37) dX10_atom4_8 (by decide) (fun c8 => ?_) (fun c8 => ?_)
  · have hf := it c8 hf
    refine g_aload_n X 1 dX10_atom4_37 rfl rfl ?_
    refine g_bipush X (v := 40) dX10_atom4_38 (by decide) ?_
    obtain ⟨r40, m40, h40, hf⟩ := bi_i hf
    refine g_eVI X 63 9 [.int (40 : Int32)] kV_X10_221 (c_X10_isSign h40) dX10_atom4_40 rfl rfl (sgN (by decide)) rfl (by decide) rfl rfl ⟨(Nat.le_of_ble_eq_true rfl), (Nat.le_of_ble_eq_true rfl)⟩ ⟨rfl, rfl⟩ ⟨(Nat.zero_le _), (Nat.zero_le _)⟩ (Nat.le_of_ble_eq_true rfl) ?_
    refine g_if_eq X (tgt := 95) dX10_atom4_43 (by decide) (fun c43 => ?_) (fun c43 => ?_)
    · have hf := it c43 hf
      refine g_aload_n X 1 dX10_atom4_95 rfl rfl ?_
      refine g_getI X 63 9 26 dX10_atom4_96 (sgN (by decide)) rfl (by decide) rfl iw_X10 (by decide) rfl q_fl_X10_180 ?_
      refine g_if_ne X (tgt := 123) dX10_atom4_99 (by decide) (fun c99 => ?_) (fun c99 => ?_)
      · have hf := ie c99 hf
        refine g_pick [1, 0] (lv' := [(0, .ref (ad 63)), (1, .int (0 : Int32))]) rfl ?_
        exact w_X10_atom4_123 X hret (0 : Int32) m40 hf
      · have hf := it c99 hf
        refine g_aload_n X 1 dX10_atom4_102 rfl rfl ?_
        refine g_getI X 63 9 22 dX10_atom4_103 (sgN (by decide)) rfl (by decide) rfl iw_X10 (by decide) rfl q_fl_X10_165 ?_
        refine g_iconst X (v := 2) dX10_atom4_106 (by decide) ?_
        refine g_icmp_ne X (tgt := 123) dX10_atom4_107 (by decide) (fun c107 => ?_) (fun c107 => ?_)
        · have hf := ie c107 hf
          refine g_pick [1, 0] (lv' := [(0, .ref (ad 63)), (1, .int (0 : Int32))]) rfl ?_
          exact w_X10_atom4_123 X hret (0 : Int32) m40 hf
        · have hf := it c107 hf
          refine g_aload_n X 1 dX10_atom4_110 rfl rfl ?_
          refine g_getJ X 63 9 24 dX10_atom4_111 (sgN (by decide)) rfl (by decide) rfl iw_X10 (by decide) rfl q_fl_X10_176 ?_
          refine g_l2i X dX10_atom4_114 ?_
          refine g_istore_n X (lv' := [(1, .int ((m40.2 63 24).toInt32)), (0, .ref (ad 63))]) dX10_atom4_115 rfl (by decide) rfl ?_
          refine g_aload_n X 1 dX10_atom4_116 rfl rfl ?_
          obtain ⟨m117, h117, hf⟩ := bv_i hf
          refine g_eVV X 63 9 [] kV_X10_196 (c_X10_next h117) dX10_atom4_117 rfl rfl (sgN (by decide)) rfl (by decide) rfl rfl ⟨(Nat.le_of_ble_eq_true rfl), (Nat.le_of_ble_eq_true rfl)⟩ ⟨rfl, rfl⟩ ⟨(Nat.zero_le _), (Nat.zero_le _)⟩ (Nat.le_of_ble_eq_true rfl) ?_
          refine g_goto X (tgt := 161) dX10_atom4_120 (by decide) ?_
          refine g_iload_n X 0 dX10_atom4_161 rfl rfl ?_
          obtain ⟨rfl, rfl⟩ := lf2 hf
          exact hret 162 _ dX10_atom4_162 rfl
    · have hf := ie c43 hf
      refine g_aload_n X 1 dX10_atom4_46 rfl rfl ?_
      obtain ⟨r47, m47, h47, hf⟩ := bi_i hf
      refine g_eVI X 63 9 [] kV_X10_224 (c_X10_opens h47) dX10_atom4_47 rfl rfl (sgN (by decide)) rfl (by decide) rfl rfl ⟨(Nat.le_of_ble_eq_true rfl), (Nat.le_of_ble_eq_true rfl)⟩ ⟨rfl, rfl⟩ ⟨(Nat.zero_le _), (Nat.zero_le _)⟩ (Nat.le_of_ble_eq_true rfl) ?_
      refine g_if_eq X (tgt := 161) dX10_atom4_50 (by decide) (fun c50 => ?_) (fun c50 => ?_)
      · have hf := it c50 hf
        refine g_iload_n X 0 dX10_atom4_161 rfl rfl ?_
        obtain ⟨rfl, rfl⟩ := lf2 hf
        exact hret 162 _ dX10_atom4_162 rfl
      · have hf := ie c50 hf
        refine g_aload_n X 1 dX10_atom4_53 rfl rfl ?_
        obtain ⟨r54, m54, h54, hf⟩ := bi_i hf
        refine g_eVI X 63 9 [] kV_X10_251 (c_X10_either5 h54) dX10_atom4_54 rfl rfl (sgN (by decide)) rfl (by decide) rfl rfl ⟨(Nat.le_of_ble_eq_true rfl), (Nat.le_of_ble_eq_true rfl)⟩ ⟨rfl, rfl⟩ ⟨(Nat.zero_le _), (Nat.zero_le _)⟩ (Nat.le_of_ble_eq_true rfl) ?_
        refine g_istore_n X (lv' := [(1, .int r54), (0, .ref (ad 63))]) dX10_atom4_57 rfl (by decide) rfl ?_
        refine g_aload_n X 1 dX10_atom4_58 rfl rfl ?_
        refine g_bipush X (v := 41) dX10_atom4_59 (by decide) ?_
        obtain ⟨r61, m61, h61, hf⟩ := bi_i hf
        refine g_eVI X 63 9 [.int (41 : Int32)] kV_X10_221 (c_X10_isSign h61) dX10_atom4_61 rfl rfl (sgN (by decide)) rfl (by decide) rfl rfl ⟨(Nat.le_of_ble_eq_true rfl), (Nat.le_of_ble_eq_true rfl)⟩ ⟨rfl, rfl⟩ ⟨(Nat.zero_le _), (Nat.zero_le _)⟩ (Nat.le_of_ble_eq_true rfl) ?_
        refine g_if_ne X (tgt := 71) dX10_atom4_64 (by decide) (fun c64 => ?_) (fun c64 => ?_)
        · have hf := ie c64 hf
          refine g_pick [1, 0] (lv' := [(0, .ref (ad 63)), (1, .int r54)]) rfl ?_
          exact w_X10_atom4_71 X hret r54 m61 hf
        · have hf := it c64 hf
          refine g_aload_n X 1 dX10_atom4_67 rfl rfl ?_
          obtain ⟨m68, h68, hf⟩ := bv_i hf
          refine g_eVV X 63 9 [] kV_X10_193 (c_X10_fail h68) dX10_atom4_68 rfl rfl (sgN (by decide)) rfl (by decide) rfl rfl ⟨(Nat.le_of_ble_eq_true rfl), (Nat.le_of_ble_eq_true rfl)⟩ ⟨rfl, rfl⟩ ⟨(Nat.zero_le _), (Nat.zero_le _)⟩ (Nat.le_of_ble_eq_true rfl) ?_
          refine g_pick [1, 0] (lv' := [(0, .ref (ad 63)), (1, .int r54)]) rfl ?_
          exact w_X10_atom4_71 X hret r54 m68 hf
  · have hf := ie c8 hf
    refine g_aload_n X 1 dX10_atom4_11 rfl rfl ?_
    obtain ⟨r12, m12, h12, hf⟩ := bi_i hf
    refine g_eVI X 63 9 [] kV_X10_224 (c_X10_opens h12) dX10_atom4_12 rfl rfl (sgN (by decide)) rfl (by decide) rfl rfl ⟨(Nat.le_of_ble_eq_true rfl), (Nat.le_of_ble_eq_true rfl)⟩ ⟨rfl, rfl⟩ ⟨(Nat.zero_le _), (Nat.zero_le _)⟩ (Nat.le_of_ble_eq_true rfl) ?_
    refine g_if_eq X (tgt := 161) dX10_atom4_15 (by decide) (fun c15 => ?_) (fun c15 => ?_)
    · have hf := it c15 hf
      refine g_iload_n X 0 dX10_atom4_161 rfl rfl ?_
      obtain ⟨rfl, rfl⟩ := lf2 hf
      exact hret 162 _ dX10_atom4_162 rfl
    · have hf := ie c15 hf
      refine g_aload_n X 1 dX10_atom4_18 rfl rfl ?_
      obtain ⟨r19, m19, h19, hf⟩ := bi_i hf
      refine g_eVI X 63 9 [] kV_X10_232 (c_X10_atom5 h19) dX10_atom4_19 rfl rfl (sgN (by decide)) rfl (by decide) rfl rfl ⟨(Nat.le_of_ble_eq_true rfl), (Nat.le_of_ble_eq_true rfl)⟩ ⟨rfl, rfl⟩ ⟨(Nat.zero_le _), (Nat.zero_le _)⟩ (Nat.le_of_ble_eq_true rfl) ?_
      refine g_ineg X dX10_atom4_22 ?_
      refine g_istore_n X (lv' := [(1, .int (-r19)), (0, .ref (ad 63))]) dX10_atom4_23 rfl (by decide) rfl ?_
      refine g_aload_n X 1 dX10_atom4_24 rfl rfl ?_
      refine g_dup X dX10_atom4_25 rfl ?_
      refine g_getI X 63 9 25 dX10_atom4_26 (sgN (by decide)) rfl (by decide) rfl iw_X10 (by decide) rfl q_fl_X10_190 ?_
      refine g_iconst X (v := 1) dX10_atom4_29 (by decide) ?_
      refine g_isub X dX10_atom4_30 ?_
      refine g_putI X (tyf := tyX10) 63 9 25 dX10_atom4_31 (sgN (by decide)) rfl (by decide) rfl iw_X10 (by decide) rfl q_fl_X10_190 tyX10_ok nmX10 rfl rfl rfl ?_
      refine g_goto X (tgt := 161) dX10_atom4_34 (by decide) ?_
      refine g_iload_n X 0 dX10_atom4_161 rfl rfl ?_
      obtain ⟨rfl, rfl⟩ := lf2 hf
      exact hret 162 _ dX10_atom4_162 rfl

theorem kV_X10_254 : wcV RX10 254 RX10 yX10_atom4 cX10_atom4 2 (some .int) 0 := ⟨q_ml_X10_254, q_im_yX10_atom4, q_se_yX10_atom4, q_in_X10, q_co_yX10_atom4, by decide +kernel⟩

def X10_term4_5 : Nat → Int32 → Mem → Option (Int32 × Mem)
  | 0, _, _ => none
  | n + 1, v1, m0 =>
    bi (X10_isSign (42 : Int32) m0) fun r8 m8 =>
    if r8 = 0 then
      some (v1, m8)
    else
      bv (X10_next m8) fun m15 =>
      bi (X10_atom4 m15) fun r20 m20 =>
      X10_term4_5 n (v1 * r20) m20
def X10_term4 (m0 : Mem) : Option (Int32 × Mem) :=
  bi (X10_atom4 m0) fun r1 m1 =>
  X10_term4_5 10000 r1 m1
abbrev rmX10_term4 : Room := { frames := 11, cells := 0, slots := 0, locals := 244 }
set_option maxRecDepth 100000 in
set_option maxHeartbeats 4000000 in
theorem w_X10_term4_5 {Γ : Ga} {b : Nat} {ad : Nat → Nat} {nt : Nat} {z : Nat → Nat} {r9 : Int32} {m9 : Mem} (X : Cx Γ b cX10_term4 2 RX10 (some .int) rmX10_term4) (hret : ∀ (pc : Nat) (lv : List (Nat × Value)), decode cX10_term4 pc = .ok (.ireturn, 1) → narrow .int (.int r9) = .int r9 → Go Γ b (sg ad nt z) 0 0 pc lv [.int r9] m9) : ∀ (n : Nat) (v1 : Int32) (m0 : Mem), X10_term4_5 n v1 m0 = some (r9, m9) → Go Γ b (sg ad nt z) 0 0 5 [(0, .ref (ad 63)), (1, .int v1)] [] m0 := by
  intro n
  induction n with
  | zero =>
    intro v1 m0 hf
    cases hf
  | succ n ih =>
    intro v1 m0 hf
    refine g_aload_n X 0 dX10_term4_5 rfl rfl ?_
    refine g_bipush X (v := 42) dX10_term4_6 (by decide) ?_
    obtain ⟨r8, m8, h8, hf⟩ := bi_i hf
    refine g_eVI X 63 9 [.int (42 : Int32)] kV_X10_221 (c_X10_isSign h8) dX10_term4_8 rfl rfl (sgN (by decide)) rfl (by decide) rfl rfl ⟨(Nat.le_of_ble_eq_true rfl), (Nat.le_of_ble_eq_true rfl)⟩ ⟨rfl, rfl⟩ ⟨(Nat.zero_le _), (Nat.zero_le _)⟩ (Nat.le_of_ble_eq_true rfl) ?_
    refine g_if_eq X (tgt := 28) dX10_term4_11 (by decide) (fun c11 => ?_) (fun c11 => ?_)
    · have hf := it c11 hf
      refine g_iload_n X 1 dX10_term4_28 rfl rfl ?_
      obtain ⟨rfl, rfl⟩ := lf2 hf
      exact hret 29 _ dX10_term4_29 rfl
    · have hf := ie c11 hf
      refine g_aload_n X 0 dX10_term4_14 rfl rfl ?_
      obtain ⟨m15, h15, hf⟩ := bv_i hf
      refine g_eVV X 63 9 [] kV_X10_196 (c_X10_next h15) dX10_term4_15 rfl rfl (sgN (by decide)) rfl (by decide) rfl rfl ⟨(Nat.le_of_ble_eq_true rfl), (Nat.le_of_ble_eq_true rfl)⟩ ⟨rfl, rfl⟩ ⟨(Nat.zero_le _), (Nat.zero_le _)⟩ (Nat.le_of_ble_eq_true rfl) ?_
      refine g_iload_n X 1 dX10_term4_18 rfl rfl ?_
      refine g_aload_n X 0 dX10_term4_19 rfl rfl ?_
      obtain ⟨r20, m20, h20, hf⟩ := bi_i hf
      refine g_eVI X 63 9 [] kV_X10_254 (c_X10_atom4 h20) dX10_term4_20 rfl rfl (sgN (by decide)) rfl (by decide) rfl rfl ⟨(Nat.le_of_ble_eq_true rfl), (Nat.le_of_ble_eq_true rfl)⟩ ⟨rfl, rfl⟩ ⟨(Nat.zero_le _), (Nat.zero_le _)⟩ (Nat.le_of_ble_eq_true rfl) ?_
      refine g_imul X dX10_term4_23 ?_
      refine g_istore_n X (lv' := [(1, .int (v1 * r20)), (0, .ref (ad 63))]) dX10_term4_24 rfl (by decide) rfl ?_
      refine g_goto X (tgt := 5) dX10_term4_25 (by decide) ?_
      refine g_pick [1, 0] (lv' := [(0, .ref (ad 63)), (1, .int (v1 * r20))]) rfl ?_
      exact ih (v1 * r20) m20 hf
set_option maxRecDepth 100000 in
set_option maxHeartbeats 4000000 in
theorem c_X10_term4 {l : Launch} {G : GG} {b : Nat} {ad : Nat → Nat} {nt : Nat} {z : Nat → Nat} {m0 : Mem} {r9 : Int32} {m9 : Mem} (hf : X10_term4 m0 = some (r9, m9)) : MtI l yX10_term4 cX10_term4 2 (some .int) rmX10_term4 G b (sg ad nt z) m0 [.ref (ad 63)] (pEI r9 (sg ad nt z) m9) := by
  refine mtI_of (by decide) (Nat.le_of_ble_eq_true rfl) .int rfl (fun Γ hG X hnm hr => ?_)
  have hret : ∀ (pc : Nat) (lv : List (Nat × Value)), decode cX10_term4 pc = .ok (.ireturn, 1) → narrow .int (.int r9) = .int r9 → Go Γ b (sg ad nt z) 0 0 pc lv [.int r9] m9 := fun pc lv d hn => hr pc lv _ _ _ d ⟨rfl, rfl, rfl⟩ hn
  show Go Γ b (sg ad nt z) 0 0 0 [(0, .ref (ad 63))] [] m0
  refine g_aload_n X 0 dX10_term4_0 rfl rfl ?_
  obtain ⟨r1, m1, h1, hf⟩ := bi_i hf
  refine g_eVI X 63 9 [] kV_X10_254 (c_X10_atom4 h1) dX10_term4_1 rfl rfl (sgN (by decide)) rfl (by decide) rfl rfl ⟨(Nat.le_of_ble_eq_true rfl), (Nat.le_of_ble_eq_true rfl)⟩ ⟨rfl, rfl⟩ ⟨(Nat.zero_le _), (Nat.zero_le _)⟩ (Nat.le_of_ble_eq_true rfl) ?_
  refine g_istore_n X (lv' := [(1, .int r1), (0, .ref (ad 63))]) dX10_term4_4 rfl (by decide) rfl ?_
  refine g_pick [1, 0] (lv' := [(0, .ref (ad 63)), (1, .int r1)]) rfl ?_
  exact w_X10_term4_5 X hret 10000 r1 m1 hf

theorem kV_X10_257 : wcV RX10 257 RX10 yX10_term4 cX10_term4 2 (some .int) 0 := ⟨q_ml_X10_257, q_im_yX10_term4, q_se_yX10_term4, q_in_X10, q_co_yX10_term4, by decide +kernel⟩

def X10_added4_62 (k5 : Int32 → Mem → Option (Int32 × Mem)) (s0 : Int32) (m0 : Mem) : Option (Int32 × Mem) :=
  k5 s0 m0
def X10_added4_39 (k5 : Int32 → Mem → Option (Int32 × Mem)) (v1 : Int32) (s0 : Int32) (m0 : Mem) : Option (Int32 × Mem) :=
  bv (X10_next m0) fun m41 =>
  bi (X10_term4 m41) fun r45 m45 =>
  if s0 = 0 then
    X10_added4_62 k5 (v1 - r45) m45
  else
    X10_added4_62 k5 (v1 + r45) m45
def X10_added4_23 (k5 : Int32 → Mem → Option (Int32 × Mem)) (v1 : Int32) (m0 : Mem) : Option (Int32 × Mem) :=
  if (lg_cmp (m0.2 63 24) (43 : Int64)) = 0 then
    X10_added4_39 k5 v1 (1 : Int32) m0
  else
    X10_added4_39 k5 v1 (0 : Int32) m0
def X10_added4_5 : Nat → Int32 → Mem → Option (Int32 × Mem)
  | 0, _, _ => none
  | n + 1, v1, m0 =>
    bi (X10_isSign (43 : Int32) m0) fun r8 m8 =>
    if r8 = 0 then
      bi (X10_isSign (45 : Int32) m8) fun r17 m17 =>
      if r17 = 0 then
        some (v1, m17)
      else
        X10_added4_23 (X10_added4_5 n) v1 m17
    else
      X10_added4_23 (X10_added4_5 n) v1 m8
def X10_added4 (m0 : Mem) : Option (Int32 × Mem) :=
  bi (X10_term4 m0) fun r1 m1 =>
  X10_added4_5 10000 r1 m1
abbrev rmX10_added4 : Room := { frames := 12, cells := 0, slots := 0, locals := 265 }
set_option maxRecDepth 100000 in
set_option maxHeartbeats 4000000 in
theorem w_X10_added4_62 {Γ : Ga} {b : Nat} {ad : Nat → Nat} {nt : Nat} {z : Nat → Nat} {k5 : Int32 → Mem → Option (Int32 × Mem)} {r9 : Int32} {m9 : Mem} (X : Cx Γ b cX10_added4 4 RX10 (some .int) rmX10_added4) (hret : ∀ (pc : Nat) (lv : List (Nat × Value)), decode cX10_added4 pc = .ok (.ireturn, 1) → narrow .int (.int r9) = .int r9 → Go Γ b (sg ad nt z) 0 0 pc lv [.int r9] m9) (hk5 : ∀ (v1 : Int32) (m0 : Mem), k5 v1 m0 = some (r9, m9) → Go Γ b (sg ad nt z) 0 0 5 [(0, .ref (ad 63)), (1, .int v1)] [] m0) (s0 : Int32) (m0 : Mem) (hf : X10_added4_62 k5 s0 m0 = some (r9, m9)) : Go Γ b (sg ad nt z) 0 0 62 [(0, .ref (ad 63))] [.int s0] m0 := by
  refine g_istore_n X (lv' := [(1, .int s0), (0, .ref (ad 63))]) dX10_added4_62 rfl (by decide) rfl ?_
  refine g_goto X (tgt := 5) dX10_added4_63 (by decide) ?_
  refine g_pick [1, 0] (lv' := [(0, .ref (ad 63)), (1, .int s0)]) rfl ?_
  exact hk5 s0 m0 hf
set_option maxRecDepth 100000 in
set_option maxHeartbeats 4000000 in
theorem w_X10_added4_39 {Γ : Ga} {b : Nat} {ad : Nat → Nat} {nt : Nat} {z : Nat → Nat} {k5 : Int32 → Mem → Option (Int32 × Mem)} {r9 : Int32} {m9 : Mem} (X : Cx Γ b cX10_added4 4 RX10 (some .int) rmX10_added4) (hret : ∀ (pc : Nat) (lv : List (Nat × Value)), decode cX10_added4 pc = .ok (.ireturn, 1) → narrow .int (.int r9) = .int r9 → Go Γ b (sg ad nt z) 0 0 pc lv [.int r9] m9) (hk5 : ∀ (v1 : Int32) (m0 : Mem), k5 v1 m0 = some (r9, m9) → Go Γ b (sg ad nt z) 0 0 5 [(0, .ref (ad 63)), (1, .int v1)] [] m0) (v1 : Int32) (s0 : Int32) (m0 : Mem) (hf : X10_added4_39 k5 v1 s0 m0 = some (r9, m9)) : Go Γ b (sg ad nt z) 0 0 39 [(0, .ref (ad 63)), (1, .int v1)] [.int s0] m0 := by
  refine g_istore_n X (lv' := [(2, .int s0), (0, .ref (ad 63)), (1, .int v1)]) dX10_added4_39 rfl (by decide) rfl ?_
  refine g_aload_n X 1 dX10_added4_40 rfl rfl ?_
  obtain ⟨m41, h41, hf⟩ := bv_i hf
  refine g_eVV X 63 9 [] kV_X10_196 (c_X10_next h41) dX10_added4_41 rfl rfl (sgN (by decide)) rfl (by decide) rfl rfl ⟨(Nat.le_of_ble_eq_true rfl), (Nat.le_of_ble_eq_true rfl)⟩ ⟨rfl, rfl⟩ ⟨(Nat.zero_le _), (Nat.zero_le _)⟩ (Nat.le_of_ble_eq_true rfl) ?_
  refine g_aload_n X 1 dX10_added4_44 rfl rfl ?_
  obtain ⟨r45, m45, h45, hf⟩ := bi_i hf
  refine g_eVI X 63 9 [] kV_X10_257 (c_X10_term4 h45) dX10_added4_45 rfl rfl (sgN (by decide)) rfl (by decide) rfl rfl ⟨(Nat.le_of_ble_eq_true rfl), (Nat.le_of_ble_eq_true rfl)⟩ ⟨rfl, rfl⟩ ⟨(Nat.zero_le _), (Nat.zero_le _)⟩ (Nat.le_of_ble_eq_true rfl) ?_
  refine g_istore_n X (lv' := [(3, .int r45), (2, .int s0), (0, .ref (ad 63)), (1, .int v1)]) dX10_added4_48 rfl (by decide) rfl ?_
  refine g_iload_n X 1 dX10_added4_49 rfl rfl ?_
  refine g_if_eq X (tgt := 59) dX10_added4_50 (by decide) (fun c50 => ?_) (fun c50 => ?_)
  · have hf := it c50 hf
    refine g_iload_n X 3 dX10_added4_59 rfl rfl ?_
    refine g_iload_n X 0 dX10_added4_60 rfl rfl ?_
    refine g_isub X dX10_added4_61 ?_
    refine g_pick [2] (lv' := [(0, .ref (ad 63))]) rfl ?_
    exact w_X10_added4_62 X hret hk5 (v1 - r45) m45 hf
  · have hf := ie c50 hf
    refine g_iload_n X 3 dX10_added4_53 rfl rfl ?_
    refine g_iload_n X 0 dX10_added4_54 rfl rfl ?_
    refine g_iadd X dX10_added4_55 ?_
    refine g_goto X (tgt := 62) dX10_added4_56 (by decide) ?_
    refine g_pick [2] (lv' := [(0, .ref (ad 63))]) rfl ?_
    exact w_X10_added4_62 X hret hk5 (v1 + r45) m45 hf
set_option maxRecDepth 100000 in
set_option maxHeartbeats 4000000 in
theorem w_X10_added4_23 {Γ : Ga} {b : Nat} {ad : Nat → Nat} {nt : Nat} {z : Nat → Nat} {k5 : Int32 → Mem → Option (Int32 × Mem)} {r9 : Int32} {m9 : Mem} (X : Cx Γ b cX10_added4 4 RX10 (some .int) rmX10_added4) (hret : ∀ (pc : Nat) (lv : List (Nat × Value)), decode cX10_added4 pc = .ok (.ireturn, 1) → narrow .int (.int r9) = .int r9 → Go Γ b (sg ad nt z) 0 0 pc lv [.int r9] m9) (hk5 : ∀ (v1 : Int32) (m0 : Mem), k5 v1 m0 = some (r9, m9) → Go Γ b (sg ad nt z) 0 0 5 [(0, .ref (ad 63)), (1, .int v1)] [] m0) (v1 : Int32) (m0 : Mem) (hf : X10_added4_23 k5 v1 m0 = some (r9, m9)) : Go Γ b (sg ad nt z) 0 0 23 [(0, .ref (ad 63)), (1, .int v1)] [] m0 := by
  refine g_aload_n X 0 dX10_added4_23 rfl rfl ?_
  refine g_getJ X 63 9 24 dX10_added4_24 (sgN (by decide)) rfl (by decide) rfl iw_X10 (by decide) rfl q_fl_X10_176 ?_
  refine g_ldc2 X dX10_added4_27 q_cl_X10_238 ?_
  refine g_lcmp X dX10_added4_30 ?_
  refine g_if_ne X (tgt := 38) dX10_added4_31 (by decide) (fun c31 => ?_) (fun c31 => ?_)
  · have hf := ie c31 hf
    refine g_iconst X (v := 0) dX10_added4_38 (by decide) ?_
    exact w_X10_added4_39 X hret hk5 v1 (0 : Int32) m0 hf
  · have hf := it c31 hf
    refine g_iconst X (v := 1) dX10_added4_34 (by decide) ?_
    refine g_goto X (tgt := 39) dX10_added4_35 (by decide) ?_
    exact w_X10_added4_39 X hret hk5 v1 (1 : Int32) m0 hf
set_option maxRecDepth 100000 in
set_option maxHeartbeats 4000000 in
theorem w_X10_added4_5 {Γ : Ga} {b : Nat} {ad : Nat → Nat} {nt : Nat} {z : Nat → Nat} {r9 : Int32} {m9 : Mem} (X : Cx Γ b cX10_added4 4 RX10 (some .int) rmX10_added4) (hret : ∀ (pc : Nat) (lv : List (Nat × Value)), decode cX10_added4 pc = .ok (.ireturn, 1) → narrow .int (.int r9) = .int r9 → Go Γ b (sg ad nt z) 0 0 pc lv [.int r9] m9) : ∀ (n : Nat) (v1 : Int32) (m0 : Mem), X10_added4_5 n v1 m0 = some (r9, m9) → Go Γ b (sg ad nt z) 0 0 5 [(0, .ref (ad 63)), (1, .int v1)] [] m0 := by
  intro n
  induction n with
  | zero =>
    intro v1 m0 hf
    cases hf
  | succ n ih =>
    intro v1 m0 hf
    refine g_aload_n X 0 dX10_added4_5 rfl rfl ?_
    refine g_bipush X (v := 43) dX10_added4_6 (by decide) ?_
    obtain ⟨r8, m8, h8, hf⟩ := bi_i hf
    refine g_eVI X 63 9 [.int (43 : Int32)] kV_X10_221 (c_X10_isSign h8) dX10_added4_8 rfl rfl (sgN (by decide)) rfl (by decide) rfl rfl ⟨(Nat.le_of_ble_eq_true rfl), (Nat.le_of_ble_eq_true rfl)⟩ ⟨rfl, rfl⟩ ⟨(Nat.zero_le _), (Nat.zero_le _)⟩ (Nat.le_of_ble_eq_true rfl) ?_
    refine g_if_ne X (tgt := 23) dX10_added4_11 (by decide) (fun c11 => ?_) (fun c11 => ?_)
    · have hf := ie c11 hf
      exact w_X10_added4_23 X hret ih v1 m8 hf
    · have hf := it c11 hf
      refine g_aload_n X 0 dX10_added4_14 rfl rfl ?_
      refine g_bipush X (v := 45) dX10_added4_15 (by decide) ?_
      obtain ⟨r17, m17, h17, hf⟩ := bi_i hf
      refine g_eVI X 63 9 [.int (45 : Int32)] kV_X10_221 (c_X10_isSign h17) dX10_added4_17 rfl rfl (sgN (by decide)) rfl (by decide) rfl rfl ⟨(Nat.le_of_ble_eq_true rfl), (Nat.le_of_ble_eq_true rfl)⟩ ⟨rfl, rfl⟩ ⟨(Nat.zero_le _), (Nat.zero_le _)⟩ (Nat.le_of_ble_eq_true rfl) ?_
      refine g_if_eq X (tgt := 66) dX10_added4_20 (by decide) (fun c20 => ?_) (fun c20 => ?_)
      · have hf := it c20 hf
        refine g_iload_n X 1 dX10_added4_66 rfl rfl ?_
        obtain ⟨rfl, rfl⟩ := lf2 hf
        exact hret 67 _ dX10_added4_67 rfl
      · have hf := ie c20 hf
        exact w_X10_added4_23 X hret ih v1 m17 hf
set_option maxRecDepth 100000 in
set_option maxHeartbeats 4000000 in
theorem c_X10_added4 {l : Launch} {G : GG} {b : Nat} {ad : Nat → Nat} {nt : Nat} {z : Nat → Nat} {m0 : Mem} {r9 : Int32} {m9 : Mem} (hf : X10_added4 m0 = some (r9, m9)) : MtI l yX10_added4 cX10_added4 4 (some .int) rmX10_added4 G b (sg ad nt z) m0 [.ref (ad 63)] (pEI r9 (sg ad nt z) m9) := by
  refine mtI_of (by decide) (Nat.le_of_ble_eq_true rfl) .int rfl (fun Γ hG X hnm hr => ?_)
  have hret : ∀ (pc : Nat) (lv : List (Nat × Value)), decode cX10_added4 pc = .ok (.ireturn, 1) → narrow .int (.int r9) = .int r9 → Go Γ b (sg ad nt z) 0 0 pc lv [.int r9] m9 := fun pc lv d hn => hr pc lv _ _ _ d ⟨rfl, rfl, rfl⟩ hn
  show Go Γ b (sg ad nt z) 0 0 0 [(0, .ref (ad 63))] [] m0
  refine g_aload_n X 0 dX10_added4_0 rfl rfl ?_
  obtain ⟨r1, m1, h1, hf⟩ := bi_i hf
  refine g_eVI X 63 9 [] kV_X10_257 (c_X10_term4 h1) dX10_added4_1 rfl rfl (sgN (by decide)) rfl (by decide) rfl rfl ⟨(Nat.le_of_ble_eq_true rfl), (Nat.le_of_ble_eq_true rfl)⟩ ⟨rfl, rfl⟩ ⟨(Nat.zero_le _), (Nat.zero_le _)⟩ (Nat.le_of_ble_eq_true rfl) ?_
  refine g_istore_n X (lv' := [(1, .int r1), (0, .ref (ad 63))]) dX10_added4_4 rfl (by decide) rfl ?_
  refine g_pick [1, 0] (lv' := [(0, .ref (ad 63)), (1, .int r1)]) rfl ?_
  exact w_X10_added4_5 X hret 10000 r1 m1 hf

theorem kV_X10_260 : wcV RX10 260 RX10 yX10_added4 cX10_added4 4 (some .int) 0 := ⟨q_ml_X10_260, q_im_yX10_added4, q_se_yX10_added4, q_in_X10, q_co_yX10_added4, by decide +kernel⟩

def X10_not4_93 (v1 : Int32) (s0 : Int32) (m0 : Mem) : Option (Int32 × Mem) :=
  bv (X10_next m0) fun m95 =>
  bi (X10_added4 m95) fun r99 m99 =>
  if s0 = 0 then
    if v1 = r99 then
      some ((1 : Int32), m99)
    else
      some ((0 : Int32), m99)
  else
    if r99 ≤ v1 then
      some ((0 : Int32), m99)
    else
      some ((1 : Int32), m99)
def X10_not4_77 (v1 : Int32) (m0 : Mem) : Option (Int32 × Mem) :=
  if (lg_cmp (m0.2 63 24) (60 : Int64)) = 0 then
    X10_not4_93 v1 (1 : Int32) m0
  else
    X10_not4_93 v1 (0 : Int32) m0
def X10_not4 (m0 : Mem) : Option (Int32 × Mem) :=
  bi (X10_isWord (110 : Int32) (111 : Int32) (116 : Int32) (0 : Int32) (0 : Int32) (0 : Int32) (0 : Int32) (0 : Int32) m0) fun r12 m12 =>
  if r12 = 0 then
    bi (X10_added4 m12) fun r53 m53 =>
    bi (X10_isSign (60 : Int32) m53) fun r60 m60 =>
    if r60 = 0 then
      bi (X10_isSign (61 : Int32) m60) fun r69 m69 =>
      if r69 = 0 then
        some (r53, m69)
      else
        X10_not4_77 r53 m69
    else
      X10_not4_77 r53 m60
  else
    bi (X10_opens m12) fun r19 m19 =>
    if r19 = 0 then
      some ((0 : Int32), m19)
    else
      bi (X10_not5 m19) fun r28 m28 =>
      if r28 = 0 then
        some ((1 : Int32), pI m28 63 25 ((m28.1 63 25) - (1 : Int32)))
      else
        some ((0 : Int32), pI m28 63 25 ((m28.1 63 25) - (1 : Int32)))
abbrev rmX10_not4 : Room := { frames := 13, cells := 0, slots := 0, locals := 288 }
set_option maxRecDepth 100000 in
set_option maxHeartbeats 4000000 in
theorem w_X10_not4_93 {Γ : Ga} {b : Nat} {ad : Nat → Nat} {nt : Nat} {z : Nat → Nat} {r9 : Int32} {m9 : Mem} (X : Cx Γ b cX10_not4 4 RX10 (some .int) rmX10_not4) (hret : ∀ (pc : Nat) (lv : List (Nat × Value)), decode cX10_not4 pc = .ok (.ireturn, 1) → narrow .int (.int r9) = .int r9 → Go Γ b (sg ad nt z) 0 0 pc lv [.int r9] m9) (v1 : Int32) (s0 : Int32) (m0 : Mem) (hf : X10_not4_93 v1 s0 m0 = some (r9, m9)) : Go Γ b (sg ad nt z) 0 0 93 [(0, .ref (ad 63)), (1, .int v1)] [.int s0] m0 := by
  refine g_istore_n X (lv' := [(2, .int s0), (0, .ref (ad 63)), (1, .int v1)]) dX10_not4_93 rfl (by decide) rfl ?_
  refine g_aload_n X 1 dX10_not4_94 rfl rfl ?_
  obtain ⟨m95, h95, hf⟩ := bv_i hf
  refine g_eVV X 63 9 [] kV_X10_196 (c_X10_next h95) dX10_not4_95 rfl rfl (sgN (by decide)) rfl (by decide) rfl rfl ⟨(Nat.le_of_ble_eq_true rfl), (Nat.le_of_ble_eq_true rfl)⟩ ⟨rfl, rfl⟩ ⟨(Nat.zero_le _), (Nat.zero_le _)⟩ (Nat.le_of_ble_eq_true rfl) ?_
  refine g_aload_n X 1 dX10_not4_98 rfl rfl ?_
  obtain ⟨r99, m99, h99, hf⟩ := bi_i hf
  refine g_eVI X 63 9 [] kV_X10_260 (c_X10_added4 h99) dX10_not4_99 rfl rfl (sgN (by decide)) rfl (by decide) rfl rfl ⟨(Nat.le_of_ble_eq_true rfl), (Nat.le_of_ble_eq_true rfl)⟩ ⟨rfl, rfl⟩ ⟨(Nat.zero_le _), (Nat.zero_le _)⟩ (Nat.le_of_ble_eq_true rfl) ?_
  refine g_istore_n X (lv' := [(3, .int r99), (2, .int s0), (0, .ref (ad 63)), (1, .int v1)]) dX10_not4_102 rfl (by decide) rfl ?_
  refine g_iload_n X 1 dX10_not4_103 rfl rfl ?_
  refine g_if_eq X (tgt := 115) dX10_not4_104 (by decide) (fun c104 => ?_) (fun c104 => ?_)
  · have hf := it c104 hf
    refine g_iload_n X 3 dX10_not4_115 rfl rfl ?_
    refine g_iload_n X 0 dX10_not4_116 rfl rfl ?_
    refine g_icmp_ne X (tgt := 124) dX10_not4_117 (by decide) (fun c117 => ?_) (fun c117 => ?_)
    · have hf := ie c117 hf
      refine g_iconst X (v := 0) dX10_not4_124 (by decide) ?_
      obtain ⟨rfl, rfl⟩ := lf2 hf
      exact hret 125 _ dX10_not4_125 rfl
    · have hf := it c117 hf
      refine g_iconst X (v := 1) dX10_not4_120 (by decide) ?_
      refine g_goto X (tgt := 125) dX10_not4_121 (by decide) ?_
      obtain ⟨rfl, rfl⟩ := lf2 hf
      exact hret 125 _ dX10_not4_125 rfl
  · have hf := ie c104 hf
    refine g_iload_n X 3 dX10_not4_107 rfl rfl ?_
    refine g_iload_n X 0 dX10_not4_108 rfl rfl ?_
    refine g_icmp_ge X (tgt := 124) dX10_not4_109 (by decide) (fun c109 => ?_) (fun c109 => ?_)
    · have hf := it c109 hf
      refine g_iconst X (v := 0) dX10_not4_124 (by decide) ?_
      obtain ⟨rfl, rfl⟩ := lf2 hf
      exact hret 125 _ dX10_not4_125 rfl
    · have hf := ie c109 hf
      refine g_goto X (tgt := 120) dX10_not4_112 (by decide) ?_
      refine g_iconst X (v := 1) dX10_not4_120 (by decide) ?_
      refine g_goto X (tgt := 125) dX10_not4_121 (by decide) ?_
      obtain ⟨rfl, rfl⟩ := lf2 hf
      exact hret 125 _ dX10_not4_125 rfl
set_option maxRecDepth 100000 in
set_option maxHeartbeats 4000000 in
theorem w_X10_not4_77 {Γ : Ga} {b : Nat} {ad : Nat → Nat} {nt : Nat} {z : Nat → Nat} {r9 : Int32} {m9 : Mem} (X : Cx Γ b cX10_not4 4 RX10 (some .int) rmX10_not4) (hret : ∀ (pc : Nat) (lv : List (Nat × Value)), decode cX10_not4 pc = .ok (.ireturn, 1) → narrow .int (.int r9) = .int r9 → Go Γ b (sg ad nt z) 0 0 pc lv [.int r9] m9) (v1 : Int32) (m0 : Mem) (hf : X10_not4_77 v1 m0 = some (r9, m9)) : Go Γ b (sg ad nt z) 0 0 77 [(0, .ref (ad 63)), (1, .int v1)] [] m0 := by
  refine g_aload_n X 0 dX10_not4_77 rfl rfl ?_
  refine g_getJ X 63 9 24 dX10_not4_78 (sgN (by decide)) rfl (by decide) rfl iw_X10 (by decide) rfl q_fl_X10_176 ?_
  refine g_ldc2 X dX10_not4_81 q_cl_X10_243 ?_
  refine g_lcmp X dX10_not4_84 ?_
  refine g_if_ne X (tgt := 92) dX10_not4_85 (by decide) (fun c85 => ?_) (fun c85 => ?_)
  · have hf := ie c85 hf
    refine g_iconst X (v := 0) dX10_not4_92 (by decide) ?_
    exact w_X10_not4_93 X hret v1 (0 : Int32) m0 hf
  · have hf := it c85 hf
    refine g_iconst X (v := 1) dX10_not4_88 (by decide) ?_
    refine g_goto X (tgt := 93) dX10_not4_89 (by decide) ?_
    exact w_X10_not4_93 X hret v1 (1 : Int32) m0 hf
set_option maxRecDepth 100000 in
set_option maxHeartbeats 4000000 in
theorem c_X10_not4 {l : Launch} {G : GG} {b : Nat} {ad : Nat → Nat} {nt : Nat} {z : Nat → Nat} {m0 : Mem} {r9 : Int32} {m9 : Mem} (hf : X10_not4 m0 = some (r9, m9)) : MtI l yX10_not4 cX10_not4 4 (some .int) rmX10_not4 G b (sg ad nt z) m0 [.ref (ad 63)] (pEI r9 (sg ad nt z) m9) := by
  refine mtI_of (by decide) (Nat.le_of_ble_eq_true rfl) .int rfl (fun Γ hG X hnm hr => ?_)
  have hret : ∀ (pc : Nat) (lv : List (Nat × Value)), decode cX10_not4 pc = .ok (.ireturn, 1) → narrow .int (.int r9) = .int r9 → Go Γ b (sg ad nt z) 0 0 pc lv [.int r9] m9 := fun pc lv d hn => hr pc lv _ _ _ d ⟨rfl, rfl, rfl⟩ hn
  show Go Γ b (sg ad nt z) 0 0 0 [(0, .ref (ad 63))] [] m0
  refine g_aload_n X 0 dX10_not4_0 rfl rfl ?_
  refine g_bipush X (v := 110) dX10_not4_1 (by decide) ?_
  refine g_bipush X (v := 111) dX10_not4_3 (by decide) ?_
  refine g_bipush X (v := 116) dX10_not4_5 (by decide) ?_
  refine g_iconst X (v := 0) dX10_not4_7 (by decide) ?_
  refine g_iconst X (v := 0) dX10_not4_8 (by decide) ?_
  refine g_iconst X (v := 0) dX10_not4_9 (by decide) ?_
  refine g_iconst X (v := 0) dX10_not4_10 (by decide) ?_
  refine g_iconst X (v := 0) dX10_not4_11 (by decide) ?_
  obtain ⟨r12, m12, h12, hf⟩ := bi_i hf
  refine g_eVI X 63 9 [.int (110 : Int32), .int (111 : Int32), .int (116 : Int32), .int (0 : Int32), .int (0 : Int32), .int (0 : Int32), .int (0 : Int32), .int (0 : Int32)] kV_X10_199 (c_X10_isWord h12) dX10_not4_12 rfl rfl (sgN (by decide)) rfl (by decide) rfl rfl ⟨(Nat.le_of_ble_eq_true rfl), (Nat.le_of_ble_eq_true rfl)⟩ ⟨rfl, rfl⟩ ⟨(Nat.zero_le _), (Nat.zero_le _)⟩ (Nat.le_of_ble_eq_true rfl) ?_
  refine g_if_eq X (tgt := 52) dX10_not4_15 (by decide) (fun c15 => ?_) (fun c15 => ?_)
  · have hf := it c15 hf
    refine g_aload_n X 0 dX10_not4_52 rfl rfl ?_
    obtain ⟨r53, m53, h53, hf⟩ := bi_i hf
    refine g_eVI X 63 9 [] kV_X10_260 (c_X10_added4 h53) dX10_not4_53 rfl rfl (sgN (by decide)) rfl (by decide) rfl rfl ⟨(Nat.le_of_ble_eq_true rfl), (Nat.le_of_ble_eq_true rfl)⟩ ⟨rfl, rfl⟩ ⟨(Nat.zero_le _), (Nat.zero_le _)⟩ (Nat.le_of_ble_eq_true rfl) ?_
    refine g_istore_n X (lv' := [(1, .int r53), (0, .ref (ad 63))]) dX10_not4_56 rfl (by decide) rfl ?_
    refine g_aload_n X 1 dX10_not4_57 rfl rfl ?_
    refine g_bipush X (v := 60) dX10_not4_58 (by decide) ?_
    obtain ⟨r60, m60, h60, hf⟩ := bi_i hf
    refine g_eVI X 63 9 [.int (60 : Int32)] kV_X10_221 (c_X10_isSign h60) dX10_not4_60 rfl rfl (sgN (by decide)) rfl (by decide) rfl rfl ⟨(Nat.le_of_ble_eq_true rfl), (Nat.le_of_ble_eq_true rfl)⟩ ⟨rfl, rfl⟩ ⟨(Nat.zero_le _), (Nat.zero_le _)⟩ (Nat.le_of_ble_eq_true rfl) ?_
    refine g_if_ne X (tgt := 77) dX10_not4_63 (by decide) (fun c63 => ?_) (fun c63 => ?_)
    · have hf := ie c63 hf
      refine g_pick [1, 0] (lv' := [(0, .ref (ad 63)), (1, .int r53)]) rfl ?_
      exact w_X10_not4_77 X hret r53 m60 hf
    · have hf := it c63 hf
      refine g_aload_n X 1 dX10_not4_66 rfl rfl ?_
      refine g_bipush X (v := 61) dX10_not4_67 (by decide) ?_
      obtain ⟨r69, m69, h69, hf⟩ := bi_i hf
      refine g_eVI X 63 9 [.int (61 : Int32)] kV_X10_221 (c_X10_isSign h69) dX10_not4_69 rfl rfl (sgN (by decide)) rfl (by decide) rfl rfl ⟨(Nat.le_of_ble_eq_true rfl), (Nat.le_of_ble_eq_true rfl)⟩ ⟨rfl, rfl⟩ ⟨(Nat.zero_le _), (Nat.zero_le _)⟩ (Nat.le_of_ble_eq_true rfl) ?_
      refine g_if_ne X (tgt := 77) dX10_not4_72 (by decide) (fun c72 => ?_) (fun c72 => ?_)
      · have hf := ie c72 hf
        refine g_pick [1, 0] (lv' := [(0, .ref (ad 63)), (1, .int r53)]) rfl ?_
        exact w_X10_not4_77 X hret r53 m69 hf
      · have hf := it c72 hf
        refine g_iload_n X 0 dX10_not4_75 rfl rfl ?_
        obtain ⟨rfl, rfl⟩ := lf2 hf
        exact hret 76 _ dX10_not4_76 rfl
  · have hf := ie c15 hf
    refine g_aload_n X 0 dX10_not4_18 rfl rfl ?_
    obtain ⟨r19, m19, h19, hf⟩ := bi_i hf
    refine g_eVI X 63 9 [] kV_X10_224 (c_X10_opens h19) dX10_not4_19 rfl rfl (sgN (by decide)) rfl (by decide) rfl rfl ⟨(Nat.le_of_ble_eq_true rfl), (Nat.le_of_ble_eq_true rfl)⟩ ⟨rfl, rfl⟩ ⟨(Nat.zero_le _), (Nat.zero_le _)⟩ (Nat.le_of_ble_eq_true rfl) ?_
    refine g_if_ne X (tgt := 27) dX10_not4_22 (by decide) (fun c22 => ?_) (fun c22 => ?_)
    · have hf := ie c22 hf
      refine g_aload_n X 0 dX10_not4_27 rfl rfl ?_
      obtain ⟨r28, m28, h28, hf⟩ := bi_i hf
      refine g_eVI X 63 9 [] kV_X10_245 (c_X10_not5 h28) dX10_not4_28 rfl rfl (sgN (by decide)) rfl (by decide) rfl rfl ⟨(Nat.le_of_ble_eq_true rfl), (Nat.le_of_ble_eq_true rfl)⟩ ⟨rfl, rfl⟩ ⟨(Nat.zero_le _), (Nat.zero_le _)⟩ (Nat.le_of_ble_eq_true rfl) ?_
      refine g_istore_n X (lv' := [(1, .int r28), (0, .ref (ad 63))]) dX10_not4_31 rfl (by decide) rfl ?_
      refine g_aload_n X 1 dX10_not4_32 rfl rfl ?_
      refine g_dup X dX10_not4_33 rfl ?_
      refine g_getI X 63 9 25 dX10_not4_34 (sgN (by decide)) rfl (by decide) rfl iw_X10 (by decide) rfl q_fl_X10_190 ?_
      refine g_iconst X (v := 1) dX10_not4_37 (by decide) ?_
      refine g_isub X dX10_not4_38 ?_
      refine g_putI X (tyf := tyX10) 63 9 25 dX10_not4_39 (sgN (by decide)) rfl (by decide) rfl iw_X10 (by decide) rfl q_fl_X10_190 tyX10_ok nmX10 rfl rfl rfl ?_
      refine g_iload_n X 0 dX10_not4_42 rfl rfl ?_
      refine g_if_ne X (tgt := 50) dX10_not4_43 (by decide) (fun c43 => ?_) (fun c43 => ?_)
      · have hf := ie c43 hf
        refine g_iconst X (v := 0) dX10_not4_50 (by decide) ?_
        obtain ⟨rfl, rfl⟩ := lf2 hf
        exact hret 51 _ dX10_not4_51 rfl
      · have hf := it c43 hf
        refine g_iconst X (v := 1) dX10_not4_46 (by decide) ?_
        refine g_goto X (tgt := 51) dX10_not4_47 (by decide) ?_
        obtain ⟨rfl, rfl⟩ := lf2 hf
        exact hret 51 _ dX10_not4_51 rfl
    · have hf := it c22 hf
      refine g_iconst X (v := 0) dX10_not4_25 (by decide) ?_
      obtain ⟨rfl, rfl⟩ := lf2 hf
      exact hret 26 _ dX10_not4_26 rfl

theorem kV_X10_263 : wcV RX10 263 RX10 yX10_not4 cX10_not4 4 (some .int) 0 := ⟨q_ml_X10_263, q_im_yX10_not4, q_se_yX10_not4, q_in_X10, q_co_yX10_not4, by decide +kernel⟩

def X10_both4_45 (k5 : Int32 → Mem → Option (Int32 × Mem)) (s0 : Int32) (m0 : Mem) : Option (Int32 × Mem) :=
  k5 s0 m0
def X10_both4_44 (k5 : Int32 → Mem → Option (Int32 × Mem)) (m0 : Mem) : Option (Int32 × Mem) :=
  X10_both4_45 k5 (0 : Int32) m0
def X10_both4_5 : Nat → Int32 → Mem → Option (Int32 × Mem)
  | 0, _, _ => none
  | n + 1, v1, m0 =>
    bi (X10_isWord (97 : Int32) (110 : Int32) (100 : Int32) (0 : Int32) (0 : Int32) (0 : Int32) (0 : Int32) (0 : Int32) m0) fun r17 m17 =>
    if r17 = 0 then
      some (v1, m17)
    else
      bv (X10_next m17) fun m24 =>
      bi (X10_not4 m24) fun r28 m28 =>
      if v1 = 0 then
        X10_both4_44 (X10_both4_5 n) m28
      else
        if r28 = 0 then
          X10_both4_44 (X10_both4_5 n) m28
        else
          X10_both4_45 (X10_both4_5 n) (1 : Int32) m28
def X10_both4 (m0 : Mem) : Option (Int32 × Mem) :=
  bi (X10_not4 m0) fun r1 m1 =>
  X10_both4_5 10000 r1 m1
abbrev rmX10_both4 : Room := { frames := 14, cells := 0, slots := 0, locals := 311 }
set_option maxRecDepth 100000 in
set_option maxHeartbeats 4000000 in
theorem w_X10_both4_45 {Γ : Ga} {b : Nat} {ad : Nat → Nat} {nt : Nat} {z : Nat → Nat} {k5 : Int32 → Mem → Option (Int32 × Mem)} {r9 : Int32} {m9 : Mem} (X : Cx Γ b cX10_both4 3 RX10 (some .int) rmX10_both4) (hret : ∀ (pc : Nat) (lv : List (Nat × Value)), decode cX10_both4 pc = .ok (.ireturn, 1) → narrow .int (.int r9) = .int r9 → Go Γ b (sg ad nt z) 0 0 pc lv [.int r9] m9) (hk5 : ∀ (v1 : Int32) (m0 : Mem), k5 v1 m0 = some (r9, m9) → Go Γ b (sg ad nt z) 0 0 5 [(0, .ref (ad 63)), (1, .int v1)] [] m0) (s0 : Int32) (m0 : Mem) (hf : X10_both4_45 k5 s0 m0 = some (r9, m9)) : Go Γ b (sg ad nt z) 0 0 45 [(0, .ref (ad 63))] [.int s0] m0 := by
  refine g_istore_n X (lv' := [(1, .int s0), (0, .ref (ad 63))]) dX10_both4_45 rfl (by decide) rfl ?_
  refine g_goto X (tgt := 5) dX10_both4_46 (by decide) ?_
  refine g_pick [1, 0] (lv' := [(0, .ref (ad 63)), (1, .int s0)]) rfl ?_
  exact hk5 s0 m0 hf
set_option maxRecDepth 100000 in
set_option maxHeartbeats 4000000 in
theorem w_X10_both4_44 {Γ : Ga} {b : Nat} {ad : Nat → Nat} {nt : Nat} {z : Nat → Nat} {k5 : Int32 → Mem → Option (Int32 × Mem)} {r9 : Int32} {m9 : Mem} (X : Cx Γ b cX10_both4 3 RX10 (some .int) rmX10_both4) (hret : ∀ (pc : Nat) (lv : List (Nat × Value)), decode cX10_both4 pc = .ok (.ireturn, 1) → narrow .int (.int r9) = .int r9 → Go Γ b (sg ad nt z) 0 0 pc lv [.int r9] m9) (hk5 : ∀ (v1 : Int32) (m0 : Mem), k5 v1 m0 = some (r9, m9) → Go Γ b (sg ad nt z) 0 0 5 [(0, .ref (ad 63)), (1, .int v1)] [] m0) (m0 : Mem) (hf : X10_both4_44 k5 m0 = some (r9, m9)) : Go Γ b (sg ad nt z) 0 0 44 [(0, .ref (ad 63))] [] m0 := by
  refine g_iconst X (v := 0) dX10_both4_44 (by decide) ?_
  exact w_X10_both4_45 X hret hk5 (0 : Int32) m0 hf
set_option maxRecDepth 100000 in
set_option maxHeartbeats 4000000 in
theorem w_X10_both4_5 {Γ : Ga} {b : Nat} {ad : Nat → Nat} {nt : Nat} {z : Nat → Nat} {r9 : Int32} {m9 : Mem} (X : Cx Γ b cX10_both4 3 RX10 (some .int) rmX10_both4) (hret : ∀ (pc : Nat) (lv : List (Nat × Value)), decode cX10_both4 pc = .ok (.ireturn, 1) → narrow .int (.int r9) = .int r9 → Go Γ b (sg ad nt z) 0 0 pc lv [.int r9] m9) : ∀ (n : Nat) (v1 : Int32) (m0 : Mem), X10_both4_5 n v1 m0 = some (r9, m9) → Go Γ b (sg ad nt z) 0 0 5 [(0, .ref (ad 63)), (1, .int v1)] [] m0 := by
  intro n
  induction n with
  | zero =>
    intro v1 m0 hf
    cases hf
  | succ n ih =>
    intro v1 m0 hf
    refine g_aload_n X 0 dX10_both4_5 rfl rfl ?_
    refine g_bipush X (v := 97) dX10_both4_6 (by decide) ?_
    refine g_bipush X (v := 110) dX10_both4_8 (by decide) ?_
    refine g_bipush X (v := 100) dX10_both4_10 (by decide) ?_
    refine g_iconst X (v := 0) dX10_both4_12 (by decide) ?_
    refine g_iconst X (v := 0) dX10_both4_13 (by decide) ?_
    refine g_iconst X (v := 0) dX10_both4_14 (by decide) ?_
    refine g_iconst X (v := 0) dX10_both4_15 (by decide) ?_
    refine g_iconst X (v := 0) dX10_both4_16 (by decide) ?_
    obtain ⟨r17, m17, h17, hf⟩ := bi_i hf
    refine g_eVI X 63 9 [.int (97 : Int32), .int (110 : Int32), .int (100 : Int32), .int (0 : Int32), .int (0 : Int32), .int (0 : Int32), .int (0 : Int32), .int (0 : Int32)] kV_X10_199 (c_X10_isWord h17) dX10_both4_17 rfl rfl (sgN (by decide)) rfl (by decide) rfl rfl ⟨(Nat.le_of_ble_eq_true rfl), (Nat.le_of_ble_eq_true rfl)⟩ ⟨rfl, rfl⟩ ⟨(Nat.zero_le _), (Nat.zero_le _)⟩ (Nat.le_of_ble_eq_true rfl) ?_
    refine g_if_eq X (tgt := 49) dX10_both4_20 (by decide) (fun c20 => ?_) (fun c20 => ?_)
    · have hf := it c20 hf
      refine g_iload_n X 1 dX10_both4_49 rfl rfl ?_
      obtain ⟨rfl, rfl⟩ := lf2 hf
      exact hret 50 _ dX10_both4_50 rfl
    · have hf := ie c20 hf
      refine g_aload_n X 0 dX10_both4_23 rfl rfl ?_
      obtain ⟨m24, h24, hf⟩ := bv_i hf
      refine g_eVV X 63 9 [] kV_X10_196 (c_X10_next h24) dX10_both4_24 rfl rfl (sgN (by decide)) rfl (by decide) rfl rfl ⟨(Nat.le_of_ble_eq_true rfl), (Nat.le_of_ble_eq_true rfl)⟩ ⟨rfl, rfl⟩ ⟨(Nat.zero_le _), (Nat.zero_le _)⟩ (Nat.le_of_ble_eq_true rfl) ?_
      refine g_aload_n X 0 dX10_both4_27 rfl rfl ?_
      obtain ⟨r28, m28, h28, hf⟩ := bi_i hf
      refine g_eVI X 63 9 [] kV_X10_263 (c_X10_not4 h28) dX10_both4_28 rfl rfl (sgN (by decide)) rfl (by decide) rfl rfl ⟨(Nat.le_of_ble_eq_true rfl), (Nat.le_of_ble_eq_true rfl)⟩ ⟨rfl, rfl⟩ ⟨(Nat.zero_le _), (Nat.zero_le _)⟩ (Nat.le_of_ble_eq_true rfl) ?_
      refine g_istore_n X (lv' := [(2, .int r28), (0, .ref (ad 63)), (1, .int v1)]) dX10_both4_31 rfl (by decide) rfl ?_
      refine g_iload_n X 2 dX10_both4_32 rfl rfl ?_
      refine g_if_eq X (tgt := 44) dX10_both4_33 (by decide) (fun c33 => ?_) (fun c33 => ?_)
      · have hf := it c33 hf
        refine g_pick [1] (lv' := [(0, .ref (ad 63))]) rfl ?_
        exact w_X10_both4_44 X hret ih m28 hf
      · have hf := ie c33 hf
        refine g_iload_n X 0 dX10_both4_36 rfl rfl ?_
        refine g_if_eq X (tgt := 44) dX10_both4_37 (by decide) (fun c37 => ?_) (fun c37 => ?_)
        · have hf := it c37 hf
          refine g_pick [1] (lv' := [(0, .ref (ad 63))]) rfl ?_
          exact w_X10_both4_44 X hret ih m28 hf
        · have hf := ie c37 hf
          refine g_iconst X (v := 1) dX10_both4_40 (by decide) ?_
          refine g_goto X (tgt := 45) dX10_both4_41 (by decide) ?_
          refine g_pick [1] (lv' := [(0, .ref (ad 63))]) rfl ?_
          exact w_X10_both4_45 X hret ih (1 : Int32) m28 hf
set_option maxRecDepth 100000 in
set_option maxHeartbeats 4000000 in
theorem c_X10_both4 {l : Launch} {G : GG} {b : Nat} {ad : Nat → Nat} {nt : Nat} {z : Nat → Nat} {m0 : Mem} {r9 : Int32} {m9 : Mem} (hf : X10_both4 m0 = some (r9, m9)) : MtI l yX10_both4 cX10_both4 3 (some .int) rmX10_both4 G b (sg ad nt z) m0 [.ref (ad 63)] (pEI r9 (sg ad nt z) m9) := by
  refine mtI_of (by decide) (Nat.le_of_ble_eq_true rfl) .int rfl (fun Γ hG X hnm hr => ?_)
  have hret : ∀ (pc : Nat) (lv : List (Nat × Value)), decode cX10_both4 pc = .ok (.ireturn, 1) → narrow .int (.int r9) = .int r9 → Go Γ b (sg ad nt z) 0 0 pc lv [.int r9] m9 := fun pc lv d hn => hr pc lv _ _ _ d ⟨rfl, rfl, rfl⟩ hn
  show Go Γ b (sg ad nt z) 0 0 0 [(0, .ref (ad 63))] [] m0
  refine g_aload_n X 0 dX10_both4_0 rfl rfl ?_
  obtain ⟨r1, m1, h1, hf⟩ := bi_i hf
  refine g_eVI X 63 9 [] kV_X10_263 (c_X10_not4 h1) dX10_both4_1 rfl rfl (sgN (by decide)) rfl (by decide) rfl rfl ⟨(Nat.le_of_ble_eq_true rfl), (Nat.le_of_ble_eq_true rfl)⟩ ⟨rfl, rfl⟩ ⟨(Nat.zero_le _), (Nat.zero_le _)⟩ (Nat.le_of_ble_eq_true rfl) ?_
  refine g_istore_n X (lv' := [(1, .int r1), (0, .ref (ad 63))]) dX10_both4_4 rfl (by decide) rfl ?_
  refine g_pick [1, 0] (lv' := [(0, .ref (ad 63)), (1, .int r1)]) rfl ?_
  exact w_X10_both4_5 X hret 10000 r1 m1 hf

theorem kV_X10_266 : wcV RX10 266 RX10 yX10_both4 cX10_both4 3 (some .int) 0 := ⟨q_ml_X10_266, q_im_yX10_both4, q_se_yX10_both4, q_in_X10, q_co_yX10_both4, by decide +kernel⟩

def X10_either4_44 (k5 : Int32 → Mem → Option (Int32 × Mem)) (s0 : Int32) (m0 : Mem) : Option (Int32 × Mem) :=
  k5 s0 m0
def X10_either4_39 (k5 : Int32 → Mem → Option (Int32 × Mem)) (m0 : Mem) : Option (Int32 × Mem) :=
  X10_either4_44 k5 (1 : Int32) m0
def X10_either4_5 : Nat → Int32 → Mem → Option (Int32 × Mem)
  | 0, _, _ => none
  | n + 1, v1, m0 =>
    bi (X10_isWord (111 : Int32) (114 : Int32) (0 : Int32) (0 : Int32) (0 : Int32) (0 : Int32) (0 : Int32) (0 : Int32) m0) fun r16 m16 =>
    if r16 = 0 then
      some (v1, m16)
    else
      bv (X10_next m16) fun m23 =>
      bi (X10_both4 m23) fun r27 m27 =>
      if v1 = 0 then
        if r27 = 0 then
          X10_either4_44 (X10_either4_5 n) (0 : Int32) m27
        else
          X10_either4_39 (X10_either4_5 n) m27
      else
        X10_either4_39 (X10_either4_5 n) m27
def X10_either4 (m0 : Mem) : Option (Int32 × Mem) :=
  bi (X10_both4 m0) fun r1 m1 =>
  X10_either4_5 10000 r1 m1
abbrev rmX10_either4 : Room := { frames := 15, cells := 0, slots := 0, locals := 333 }
set_option maxRecDepth 100000 in
set_option maxHeartbeats 4000000 in
theorem w_X10_either4_44 {Γ : Ga} {b : Nat} {ad : Nat → Nat} {nt : Nat} {z : Nat → Nat} {k5 : Int32 → Mem → Option (Int32 × Mem)} {r9 : Int32} {m9 : Mem} (X : Cx Γ b cX10_either4 3 RX10 (some .int) rmX10_either4) (hret : ∀ (pc : Nat) (lv : List (Nat × Value)), decode cX10_either4 pc = .ok (.ireturn, 1) → narrow .int (.int r9) = .int r9 → Go Γ b (sg ad nt z) 0 0 pc lv [.int r9] m9) (hk5 : ∀ (v1 : Int32) (m0 : Mem), k5 v1 m0 = some (r9, m9) → Go Γ b (sg ad nt z) 0 0 5 [(0, .ref (ad 63)), (1, .int v1)] [] m0) (s0 : Int32) (m0 : Mem) (hf : X10_either4_44 k5 s0 m0 = some (r9, m9)) : Go Γ b (sg ad nt z) 0 0 44 [(0, .ref (ad 63))] [.int s0] m0 := by
  refine g_istore_n X (lv' := [(1, .int s0), (0, .ref (ad 63))]) dX10_either4_44 rfl (by decide) rfl ?_
  refine g_goto X (tgt := 5) dX10_either4_45 (by decide) ?_
  refine g_pick [1, 0] (lv' := [(0, .ref (ad 63)), (1, .int s0)]) rfl ?_
  exact hk5 s0 m0 hf
set_option maxRecDepth 100000 in
set_option maxHeartbeats 4000000 in
theorem w_X10_either4_39 {Γ : Ga} {b : Nat} {ad : Nat → Nat} {nt : Nat} {z : Nat → Nat} {k5 : Int32 → Mem → Option (Int32 × Mem)} {r9 : Int32} {m9 : Mem} (X : Cx Γ b cX10_either4 3 RX10 (some .int) rmX10_either4) (hret : ∀ (pc : Nat) (lv : List (Nat × Value)), decode cX10_either4 pc = .ok (.ireturn, 1) → narrow .int (.int r9) = .int r9 → Go Γ b (sg ad nt z) 0 0 pc lv [.int r9] m9) (hk5 : ∀ (v1 : Int32) (m0 : Mem), k5 v1 m0 = some (r9, m9) → Go Γ b (sg ad nt z) 0 0 5 [(0, .ref (ad 63)), (1, .int v1)] [] m0) (m0 : Mem) (hf : X10_either4_39 k5 m0 = some (r9, m9)) : Go Γ b (sg ad nt z) 0 0 39 [(0, .ref (ad 63))] [] m0 := by
  refine g_iconst X (v := 1) dX10_either4_39 (by decide) ?_
  refine g_goto X (tgt := 44) dX10_either4_40 (by decide) ?_
  exact w_X10_either4_44 X hret hk5 (1 : Int32) m0 hf
set_option maxRecDepth 100000 in
set_option maxHeartbeats 4000000 in
theorem w_X10_either4_5 {Γ : Ga} {b : Nat} {ad : Nat → Nat} {nt : Nat} {z : Nat → Nat} {r9 : Int32} {m9 : Mem} (X : Cx Γ b cX10_either4 3 RX10 (some .int) rmX10_either4) (hret : ∀ (pc : Nat) (lv : List (Nat × Value)), decode cX10_either4 pc = .ok (.ireturn, 1) → narrow .int (.int r9) = .int r9 → Go Γ b (sg ad nt z) 0 0 pc lv [.int r9] m9) : ∀ (n : Nat) (v1 : Int32) (m0 : Mem), X10_either4_5 n v1 m0 = some (r9, m9) → Go Γ b (sg ad nt z) 0 0 5 [(0, .ref (ad 63)), (1, .int v1)] [] m0 := by
  intro n
  induction n with
  | zero =>
    intro v1 m0 hf
    cases hf
  | succ n ih =>
    intro v1 m0 hf
    refine g_aload_n X 0 dX10_either4_5 rfl rfl ?_
    refine g_bipush X (v := 111) dX10_either4_6 (by decide) ?_
    refine g_bipush X (v := 114) dX10_either4_8 (by decide) ?_
    refine g_iconst X (v := 0) dX10_either4_10 (by decide) ?_
    refine g_iconst X (v := 0) dX10_either4_11 (by decide) ?_
    refine g_iconst X (v := 0) dX10_either4_12 (by decide) ?_
    refine g_iconst X (v := 0) dX10_either4_13 (by decide) ?_
    refine g_iconst X (v := 0) dX10_either4_14 (by decide) ?_
    refine g_iconst X (v := 0) dX10_either4_15 (by decide) ?_
    obtain ⟨r16, m16, h16, hf⟩ := bi_i hf
    refine g_eVI X 63 9 [.int (111 : Int32), .int (114 : Int32), .int (0 : Int32), .int (0 : Int32), .int (0 : Int32), .int (0 : Int32), .int (0 : Int32), .int (0 : Int32)] kV_X10_199 (c_X10_isWord h16) dX10_either4_16 rfl rfl (sgN (by decide)) rfl (by decide) rfl rfl ⟨(Nat.le_of_ble_eq_true rfl), (Nat.le_of_ble_eq_true rfl)⟩ ⟨rfl, rfl⟩ ⟨(Nat.zero_le _), (Nat.zero_le _)⟩ (Nat.le_of_ble_eq_true rfl) ?_
    refine g_if_eq X (tgt := 48) dX10_either4_19 (by decide) (fun c19 => ?_) (fun c19 => ?_)
    · have hf := it c19 hf
      refine g_iload_n X 1 dX10_either4_48 rfl rfl ?_
      obtain ⟨rfl, rfl⟩ := lf2 hf
      exact hret 49 _ dX10_either4_49 rfl
    · have hf := ie c19 hf
      refine g_aload_n X 0 dX10_either4_22 rfl rfl ?_
      obtain ⟨m23, h23, hf⟩ := bv_i hf
      refine g_eVV X 63 9 [] kV_X10_196 (c_X10_next h23) dX10_either4_23 rfl rfl (sgN (by decide)) rfl (by decide) rfl rfl ⟨(Nat.le_of_ble_eq_true rfl), (Nat.le_of_ble_eq_true rfl)⟩ ⟨rfl, rfl⟩ ⟨(Nat.zero_le _), (Nat.zero_le _)⟩ (Nat.le_of_ble_eq_true rfl) ?_
      refine g_aload_n X 0 dX10_either4_26 rfl rfl ?_
      obtain ⟨r27, m27, h27, hf⟩ := bi_i hf
      refine g_eVI X 63 9 [] kV_X10_266 (c_X10_both4 h27) dX10_either4_27 rfl rfl (sgN (by decide)) rfl (by decide) rfl rfl ⟨(Nat.le_of_ble_eq_true rfl), (Nat.le_of_ble_eq_true rfl)⟩ ⟨rfl, rfl⟩ ⟨(Nat.zero_le _), (Nat.zero_le _)⟩ (Nat.le_of_ble_eq_true rfl) ?_
      refine g_istore_n X (lv' := [(2, .int r27), (0, .ref (ad 63)), (1, .int v1)]) dX10_either4_30 rfl (by decide) rfl ?_
      refine g_iload_n X 2 dX10_either4_31 rfl rfl ?_
      refine g_if_ne X (tgt := 39) dX10_either4_32 (by decide) (fun c32 => ?_) (fun c32 => ?_)
      · have hf := ie c32 hf
        refine g_pick [1] (lv' := [(0, .ref (ad 63))]) rfl ?_
        exact w_X10_either4_39 X hret ih m27 hf
      · have hf := it c32 hf
        refine g_iload_n X 0 dX10_either4_35 rfl rfl ?_
        refine g_if_eq X (tgt := 43) dX10_either4_36 (by decide) (fun c36 => ?_) (fun c36 => ?_)
        · have hf := it c36 hf
          refine g_iconst X (v := 0) dX10_either4_43 (by decide) ?_
          refine g_pick [1] (lv' := [(0, .ref (ad 63))]) rfl ?_
          exact w_X10_either4_44 X hret ih (0 : Int32) m27 hf
        · have hf := ie c36 hf
          refine g_pick [1] (lv' := [(0, .ref (ad 63))]) rfl ?_
          exact w_X10_either4_39 X hret ih m27 hf
set_option maxRecDepth 100000 in
set_option maxHeartbeats 4000000 in
theorem c_X10_either4 {l : Launch} {G : GG} {b : Nat} {ad : Nat → Nat} {nt : Nat} {z : Nat → Nat} {m0 : Mem} {r9 : Int32} {m9 : Mem} (hf : X10_either4 m0 = some (r9, m9)) : MtI l yX10_either4 cX10_either4 3 (some .int) rmX10_either4 G b (sg ad nt z) m0 [.ref (ad 63)] (pEI r9 (sg ad nt z) m9) := by
  refine mtI_of (by decide) (Nat.le_of_ble_eq_true rfl) .int rfl (fun Γ hG X hnm hr => ?_)
  have hret : ∀ (pc : Nat) (lv : List (Nat × Value)), decode cX10_either4 pc = .ok (.ireturn, 1) → narrow .int (.int r9) = .int r9 → Go Γ b (sg ad nt z) 0 0 pc lv [.int r9] m9 := fun pc lv d hn => hr pc lv _ _ _ d ⟨rfl, rfl, rfl⟩ hn
  show Go Γ b (sg ad nt z) 0 0 0 [(0, .ref (ad 63))] [] m0
  refine g_aload_n X 0 dX10_either4_0 rfl rfl ?_
  obtain ⟨r1, m1, h1, hf⟩ := bi_i hf
  refine g_eVI X 63 9 [] kV_X10_266 (c_X10_both4 h1) dX10_either4_1 rfl rfl (sgN (by decide)) rfl (by decide) rfl rfl ⟨(Nat.le_of_ble_eq_true rfl), (Nat.le_of_ble_eq_true rfl)⟩ ⟨rfl, rfl⟩ ⟨(Nat.zero_le _), (Nat.zero_le _)⟩ (Nat.le_of_ble_eq_true rfl) ?_
  refine g_istore_n X (lv' := [(1, .int r1), (0, .ref (ad 63))]) dX10_either4_4 rfl (by decide) rfl ?_
  refine g_pick [1, 0] (lv' := [(0, .ref (ad 63)), (1, .int r1)]) rfl ?_
  exact w_X10_either4_5 X hret 10000 r1 m1 hf

theorem kV_X10_269 : wcV RX10 269 RX10 yX10_either4 cX10_either4 3 (some .int) 0 := ⟨q_ml_X10_269, q_im_yX10_either4, q_se_yX10_either4, q_in_X10, q_co_yX10_either4, by decide +kernel⟩

def X10_atom3_157 (v1 : Int32) (m0 : Mem) : Option (Int32 × Mem) :=
  bv (X10_fail m0) fun m158 =>
  some (v1, m158)
def X10_atom3_123 (v1 : Int32) (m0 : Mem) : Option (Int32 × Mem) :=
  if (m0.1 63 26) = 0 then
    if (m0.1 63 22) = (1 : Int32) then
      bi (X10_name m0) fun r139 m139 =>
      if (m139.1 63 26) = 0 then
        bv (X10_next m139) fun m151 =>
        some (r139, m151)
      else
        some (r139, m139)
    else
      X10_atom3_157 v1 m0
  else
    X10_atom3_157 v1 m0
def X10_atom3_71 (v1 : Int32) (m0 : Mem) : Option (Int32 × Mem) :=
  if ((pI m0 63 25 ((m0.1 63 25) - (1 : Int32))).1 63 26) = 0 then
    bv (X10_next (pI m0 63 25 ((m0.1 63 25) - (1 : Int32)))) fun m89 =>
    some (v1, m89)
  else
    some (v1, pI m0 63 25 ((m0.1 63 25) - (1 : Int32)))
def X10_atom3 (m0 : Mem) : Option (Int32 × Mem) :=
  bi (X10_isSign (45 : Int32) m0) fun r5 m5 =>
  if r5 = 0 then
    bi (X10_isSign (40 : Int32) m5) fun r40 m40 =>
    if r40 = 0 then
      if (m40.1 63 26) = 0 then
        if (m40.1 63 22) = (2 : Int32) then
          bv (X10_next m40) fun m117 =>
          some ((m40.2 63 24).toInt32, m117)
        else
          X10_atom3_123 (0 : Int32) m40
      else
        X10_atom3_123 (0 : Int32) m40
    else
      bi (X10_opens m40) fun r47 m47 =>
      if r47 = 0 then
        some ((0 : Int32), m47)
      else
        bi (X10_either4 m47) fun r54 m54 =>
        bi (X10_isSign (41 : Int32) m54) fun r61 m61 =>
        if r61 = 0 then
          bv (X10_fail m61) fun m68 =>
          X10_atom3_71 r54 m68
        else
          X10_atom3_71 r54 m61
  else
    bi (X10_opens m5) fun r12 m12 =>
    if r12 = 0 then
      some ((0 : Int32), m12)
    else
      bi (X10_atom4 m12) fun r19 m19 =>
      some (-r19, pI m19 63 25 ((m19.1 63 25) - (1 : Int32)))
abbrev rmX10_atom3 : Room := { frames := 16, cells := 0, slots := 0, locals := 355 }
set_option maxRecDepth 100000 in
set_option maxHeartbeats 4000000 in
theorem w_X10_atom3_157 {Γ : Ga} {b : Nat} {ad : Nat → Nat} {nt : Nat} {z : Nat → Nat} {r9 : Int32} {m9 : Mem} (X : Cx Γ b cX10_atom3 2 RX10 (some .int) rmX10_atom3) (hret : ∀ (pc : Nat) (lv : List (Nat × Value)), decode cX10_atom3 pc = .ok (.ireturn, 1) → narrow .int (.int r9) = .int r9 → Go Γ b (sg ad nt z) 0 0 pc lv [.int r9] m9) (v1 : Int32) (m0 : Mem) (hf : X10_atom3_157 v1 m0 = some (r9, m9)) : Go Γ b (sg ad nt z) 0 0 157 [(0, .ref (ad 63)), (1, .int v1)] [] m0 := by
  refine g_aload_n X 0 dX10_atom3_157 rfl rfl ?_
  obtain ⟨m158, h158, hf⟩ := bv_i hf
  refine g_eVV X 63 9 [] kV_X10_193 (c_X10_fail h158) dX10_atom3_158 rfl rfl (sgN (by decide)) rfl (by decide) rfl rfl ⟨(Nat.le_of_ble_eq_true rfl), (Nat.le_of_ble_eq_true rfl)⟩ ⟨rfl, rfl⟩ ⟨(Nat.zero_le _), (Nat.zero_le _)⟩ (Nat.le_of_ble_eq_true rfl) ?_
  refine g_iload_n X 1 dX10_atom3_161 rfl rfl ?_
  obtain ⟨rfl, rfl⟩ := lf2 hf
  exact hret 162 _ dX10_atom3_162 rfl
set_option maxRecDepth 100000 in
set_option maxHeartbeats 4000000 in
theorem w_X10_atom3_123 {Γ : Ga} {b : Nat} {ad : Nat → Nat} {nt : Nat} {z : Nat → Nat} {r9 : Int32} {m9 : Mem} (X : Cx Γ b cX10_atom3 2 RX10 (some .int) rmX10_atom3) (hret : ∀ (pc : Nat) (lv : List (Nat × Value)), decode cX10_atom3 pc = .ok (.ireturn, 1) → narrow .int (.int r9) = .int r9 → Go Γ b (sg ad nt z) 0 0 pc lv [.int r9] m9) (v1 : Int32) (m0 : Mem) (hf : X10_atom3_123 v1 m0 = some (r9, m9)) : Go Γ b (sg ad nt z) 0 0 123 [(0, .ref (ad 63)), (1, .int v1)] [] m0 := by
  refine g_aload_n X 0 dX10_atom3_123 rfl rfl ?_
  refine g_getI X 63 9 26 dX10_atom3_124 (sgN (by decide)) rfl (by decide) rfl iw_X10 (by decide) rfl q_fl_X10_180 ?_
  refine g_if_ne X (tgt := 157) dX10_atom3_127 (by decide) (fun c127 => ?_) (fun c127 => ?_)
  · have hf := ie c127 hf
    exact w_X10_atom3_157 X hret v1 m0 hf
  · have hf := it c127 hf
    refine g_aload_n X 0 dX10_atom3_130 rfl rfl ?_
    refine g_getI X 63 9 22 dX10_atom3_131 (sgN (by decide)) rfl (by decide) rfl iw_X10 (by decide) rfl q_fl_X10_165 ?_
    refine g_iconst X (v := 1) dX10_atom3_134 (by decide) ?_
    refine g_icmp_ne X (tgt := 157) dX10_atom3_135 (by decide) (fun c135 => ?_) (fun c135 => ?_)
    · have hf := ie c135 hf
      exact w_X10_atom3_157 X hret v1 m0 hf
    · have hf := it c135 hf
      refine g_aload_n X 0 dX10_atom3_138 rfl rfl ?_
      obtain ⟨r139, m139, h139, hf⟩ := bi_i hf
      refine g_eVI X 63 9 [] kV_X10_228 (c_X10_name h139) dX10_atom3_139 rfl rfl (sgN (by decide)) rfl (by decide) rfl rfl ⟨(Nat.le_of_ble_eq_true rfl), (Nat.le_of_ble_eq_true rfl)⟩ ⟨rfl, rfl⟩ ⟨(Nat.zero_le _), (Nat.zero_le _)⟩ (Nat.le_of_ble_eq_true rfl) ?_
      refine g_istore_n X (lv' := [(1, .int r139), (0, .ref (ad 63))]) dX10_atom3_142 rfl (by decide) rfl ?_
      refine g_aload_n X 1 dX10_atom3_143 rfl rfl ?_
      refine g_getI X 63 9 26 dX10_atom3_144 (sgN (by decide)) rfl (by decide) rfl iw_X10 (by decide) rfl q_fl_X10_180 ?_
      refine g_if_ne X (tgt := 161) dX10_atom3_147 (by decide) (fun c147 => ?_) (fun c147 => ?_)
      · have hf := ie c147 hf
        refine g_iload_n X 0 dX10_atom3_161 rfl rfl ?_
        obtain ⟨rfl, rfl⟩ := lf2 hf
        exact hret 162 _ dX10_atom3_162 rfl
      · have hf := it c147 hf
        refine g_aload_n X 1 dX10_atom3_150 rfl rfl ?_
        obtain ⟨m151, h151, hf⟩ := bv_i hf
        refine g_eVV X 63 9 [] kV_X10_196 (c_X10_next h151) dX10_atom3_151 rfl rfl (sgN (by decide)) rfl (by decide) rfl rfl ⟨(Nat.le_of_ble_eq_true rfl), (Nat.le_of_ble_eq_true rfl)⟩ ⟨rfl, rfl⟩ ⟨(Nat.zero_le _), (Nat.zero_le _)⟩ (Nat.le_of_ble_eq_true rfl) ?_
        refine g_goto X (tgt := 161) dX10_atom3_154 (by decide) ?_
        refine g_iload_n X 0 dX10_atom3_161 rfl rfl ?_
        obtain ⟨rfl, rfl⟩ := lf2 hf
        exact hret 162 _ dX10_atom3_162 rfl
set_option maxRecDepth 100000 in
set_option maxHeartbeats 4000000 in
theorem w_X10_atom3_71 {Γ : Ga} {b : Nat} {ad : Nat → Nat} {nt : Nat} {z : Nat → Nat} {r9 : Int32} {m9 : Mem} (X : Cx Γ b cX10_atom3 2 RX10 (some .int) rmX10_atom3) (hret : ∀ (pc : Nat) (lv : List (Nat × Value)), decode cX10_atom3 pc = .ok (.ireturn, 1) → narrow .int (.int r9) = .int r9 → Go Γ b (sg ad nt z) 0 0 pc lv [.int r9] m9) (v1 : Int32) (m0 : Mem) (hf : X10_atom3_71 v1 m0 = some (r9, m9)) : Go Γ b (sg ad nt z) 0 0 71 [(0, .ref (ad 63)), (1, .int v1)] [] m0 := by
  refine g_aload_n X 0 dX10_atom3_71 rfl rfl ?_
  refine g_dup X dX10_atom3_72 rfl ?_
  refine g_getI X 63 9 25 dX10_atom3_73 (sgN (by decide)) rfl (by decide) rfl iw_X10 (by decide) rfl q_fl_X10_190 ?_
  refine g_iconst X (v := 1) dX10_atom3_76 (by decide) ?_
  refine g_isub X dX10_atom3_77 ?_
  refine g_putI X (tyf := tyX10) 63 9 25 dX10_atom3_78 (sgN (by decide)) rfl (by decide) rfl iw_X10 (by decide) rfl q_fl_X10_190 tyX10_ok nmX10 rfl rfl rfl ?_
  refine g_aload_n X 0 dX10_atom3_81 rfl rfl ?_
  refine g_getI X 63 9 26 dX10_atom3_82 (sgN (by decide)) rfl (by decide) rfl iw_X10 (by decide) rfl q_fl_X10_180 ?_
  refine g_if_ne X (tgt := 161) dX10_atom3_85 (by decide) (fun c85 => ?_) (fun c85 => ?_)
  · have hf := ie c85 hf
    refine g_iload_n X 1 dX10_atom3_161 rfl rfl ?_
    obtain ⟨rfl, rfl⟩ := lf2 hf
    exact hret 162 _ dX10_atom3_162 rfl
  · have hf := it c85 hf
    refine g_aload_n X 0 dX10_atom3_88 rfl rfl ?_
    obtain ⟨m89, h89, hf⟩ := bv_i hf
    refine g_eVV X 63 9 [] kV_X10_196 (c_X10_next h89) dX10_atom3_89 rfl rfl (sgN (by decide)) rfl (by decide) rfl rfl ⟨(Nat.le_of_ble_eq_true rfl), (Nat.le_of_ble_eq_true rfl)⟩ ⟨rfl, rfl⟩ ⟨(Nat.zero_le _), (Nat.zero_le _)⟩ (Nat.le_of_ble_eq_true rfl) ?_
    refine g_goto X (tgt := 161) dX10_atom3_92 (by decide) ?_
    refine g_iload_n X 1 dX10_atom3_161 rfl rfl ?_
    obtain ⟨rfl, rfl⟩ := lf2 hf
    exact hret 162 _ dX10_atom3_162 rfl
set_option maxRecDepth 100000 in
set_option maxHeartbeats 4000000 in
theorem c_X10_atom3 {l : Launch} {G : GG} {b : Nat} {ad : Nat → Nat} {nt : Nat} {z : Nat → Nat} {m0 : Mem} {r9 : Int32} {m9 : Mem} (hf : X10_atom3 m0 = some (r9, m9)) : MtI l yX10_atom3 cX10_atom3 2 (some .int) rmX10_atom3 G b (sg ad nt z) m0 [.ref (ad 63)] (pEI r9 (sg ad nt z) m9) := by
  refine mtI_of (by decide) (Nat.le_of_ble_eq_true rfl) .int rfl (fun Γ hG X hnm hr => ?_)
  have hret : ∀ (pc : Nat) (lv : List (Nat × Value)), decode cX10_atom3 pc = .ok (.ireturn, 1) → narrow .int (.int r9) = .int r9 → Go Γ b (sg ad nt z) 0 0 pc lv [.int r9] m9 := fun pc lv d hn => hr pc lv _ _ _ d ⟨rfl, rfl, rfl⟩ hn
  show Go Γ b (sg ad nt z) 0 0 0 [(0, .ref (ad 63))] [] m0
  refine g_iconst X (v := 0) dX10_atom3_0 (by decide) ?_
  refine g_istore_n X (lv' := [(1, .int (0 : Int32)), (0, .ref (ad 63))]) dX10_atom3_1 rfl (by decide) rfl ?_
  refine g_aload_n X 1 dX10_atom3_2 rfl rfl ?_
  refine g_bipush X (v := 45) dX10_atom3_3 (by decide) ?_
  obtain ⟨r5, m5, h5, hf⟩ := bi_i hf
  refine g_eVI X 63 9 [.int (45 : Int32)] kV_X10_221 (c_X10_isSign h5) dX10_atom3_5 rfl rfl (sgN (by decide)) rfl (by decide) rfl rfl ⟨(Nat.le_of_ble_eq_true rfl), (Nat.le_of_ble_eq_true rfl)⟩ ⟨rfl, rfl⟩ ⟨(Nat.zero_le _), (Nat.zero_le _)⟩ (Nat.le_of_ble_eq_true rfl) ?_
  refine g_if_eq X (tgt := 37) dX10_atom3_8 (by decide) (fun c8 => ?_) (fun c8 => ?_)
  · have hf := it c8 hf
    refine g_aload_n X 1 dX10_atom3_37 rfl rfl ?_
    refine g_bipush X (v := 40) dX10_atom3_38 (by decide) ?_
    obtain ⟨r40, m40, h40, hf⟩ := bi_i hf
    refine g_eVI X 63 9 [.int (40 : Int32)] kV_X10_221 (c_X10_isSign h40) dX10_atom3_40 rfl rfl (sgN (by decide)) rfl (by decide) rfl rfl ⟨(Nat.le_of_ble_eq_true rfl), (Nat.le_of_ble_eq_true rfl)⟩ ⟨rfl, rfl⟩ ⟨(Nat.zero_le _), (Nat.zero_le _)⟩ (Nat.le_of_ble_eq_true rfl) ?_
    refine g_if_eq X (tgt := 95) dX10_atom3_43 (by decide) (fun c43 => ?_) (fun c43 => ?_)
    · have hf := it c43 hf
      refine g_aload_n X 1 dX10_atom3_95 rfl rfl ?_
      refine g_getI X 63 9 26 dX10_atom3_96 (sgN (by decide)) rfl (by decide) rfl iw_X10 (by decide) rfl q_fl_X10_180 ?_
      refine g_if_ne X (tgt := 123) dX10_atom3_99 (by decide) (fun c99 => ?_) (fun c99 => ?_)
      · have hf := ie c99 hf
        refine g_pick [1, 0] (lv' := [(0, .ref (ad 63)), (1, .int (0 : Int32))]) rfl ?_
        exact w_X10_atom3_123 X hret (0 : Int32) m40 hf
      · have hf := it c99 hf
        refine g_aload_n X 1 dX10_atom3_102 rfl rfl ?_
        refine g_getI X 63 9 22 dX10_atom3_103 (sgN (by decide)) rfl (by decide) rfl iw_X10 (by decide) rfl q_fl_X10_165 ?_
        refine g_iconst X (v := 2) dX10_atom3_106 (by decide) ?_
        refine g_icmp_ne X (tgt := 123) dX10_atom3_107 (by decide) (fun c107 => ?_) (fun c107 => ?_)
        · have hf := ie c107 hf
          refine g_pick [1, 0] (lv' := [(0, .ref (ad 63)), (1, .int (0 : Int32))]) rfl ?_
          exact w_X10_atom3_123 X hret (0 : Int32) m40 hf
        · have hf := it c107 hf
          refine g_aload_n X 1 dX10_atom3_110 rfl rfl ?_
          refine g_getJ X 63 9 24 dX10_atom3_111 (sgN (by decide)) rfl (by decide) rfl iw_X10 (by decide) rfl q_fl_X10_176 ?_
          refine g_l2i X dX10_atom3_114 ?_
          refine g_istore_n X (lv' := [(1, .int ((m40.2 63 24).toInt32)), (0, .ref (ad 63))]) dX10_atom3_115 rfl (by decide) rfl ?_
          refine g_aload_n X 1 dX10_atom3_116 rfl rfl ?_
          obtain ⟨m117, h117, hf⟩ := bv_i hf
          refine g_eVV X 63 9 [] kV_X10_196 (c_X10_next h117) dX10_atom3_117 rfl rfl (sgN (by decide)) rfl (by decide) rfl rfl ⟨(Nat.le_of_ble_eq_true rfl), (Nat.le_of_ble_eq_true rfl)⟩ ⟨rfl, rfl⟩ ⟨(Nat.zero_le _), (Nat.zero_le _)⟩ (Nat.le_of_ble_eq_true rfl) ?_
          refine g_goto X (tgt := 161) dX10_atom3_120 (by decide) ?_
          refine g_iload_n X 0 dX10_atom3_161 rfl rfl ?_
          obtain ⟨rfl, rfl⟩ := lf2 hf
          exact hret 162 _ dX10_atom3_162 rfl
    · have hf := ie c43 hf
      refine g_aload_n X 1 dX10_atom3_46 rfl rfl ?_
      obtain ⟨r47, m47, h47, hf⟩ := bi_i hf
      refine g_eVI X 63 9 [] kV_X10_224 (c_X10_opens h47) dX10_atom3_47 rfl rfl (sgN (by decide)) rfl (by decide) rfl rfl ⟨(Nat.le_of_ble_eq_true rfl), (Nat.le_of_ble_eq_true rfl)⟩ ⟨rfl, rfl⟩ ⟨(Nat.zero_le _), (Nat.zero_le _)⟩ (Nat.le_of_ble_eq_true rfl) ?_
      refine g_if_eq X (tgt := 161) dX10_atom3_50 (by decide) (fun c50 => ?_) (fun c50 => ?_)
      · have hf := it c50 hf
        refine g_iload_n X 0 dX10_atom3_161 rfl rfl ?_
        obtain ⟨rfl, rfl⟩ := lf2 hf
        exact hret 162 _ dX10_atom3_162 rfl
      · have hf := ie c50 hf
        refine g_aload_n X 1 dX10_atom3_53 rfl rfl ?_
        obtain ⟨r54, m54, h54, hf⟩ := bi_i hf
        refine g_eVI X 63 9 [] kV_X10_269 (c_X10_either4 h54) dX10_atom3_54 rfl rfl (sgN (by decide)) rfl (by decide) rfl rfl ⟨(Nat.le_of_ble_eq_true rfl), (Nat.le_of_ble_eq_true rfl)⟩ ⟨rfl, rfl⟩ ⟨(Nat.zero_le _), (Nat.zero_le _)⟩ (Nat.le_of_ble_eq_true rfl) ?_
        refine g_istore_n X (lv' := [(1, .int r54), (0, .ref (ad 63))]) dX10_atom3_57 rfl (by decide) rfl ?_
        refine g_aload_n X 1 dX10_atom3_58 rfl rfl ?_
        refine g_bipush X (v := 41) dX10_atom3_59 (by decide) ?_
        obtain ⟨r61, m61, h61, hf⟩ := bi_i hf
        refine g_eVI X 63 9 [.int (41 : Int32)] kV_X10_221 (c_X10_isSign h61) dX10_atom3_61 rfl rfl (sgN (by decide)) rfl (by decide) rfl rfl ⟨(Nat.le_of_ble_eq_true rfl), (Nat.le_of_ble_eq_true rfl)⟩ ⟨rfl, rfl⟩ ⟨(Nat.zero_le _), (Nat.zero_le _)⟩ (Nat.le_of_ble_eq_true rfl) ?_
        refine g_if_ne X (tgt := 71) dX10_atom3_64 (by decide) (fun c64 => ?_) (fun c64 => ?_)
        · have hf := ie c64 hf
          refine g_pick [1, 0] (lv' := [(0, .ref (ad 63)), (1, .int r54)]) rfl ?_
          exact w_X10_atom3_71 X hret r54 m61 hf
        · have hf := it c64 hf
          refine g_aload_n X 1 dX10_atom3_67 rfl rfl ?_
          obtain ⟨m68, h68, hf⟩ := bv_i hf
          refine g_eVV X 63 9 [] kV_X10_193 (c_X10_fail h68) dX10_atom3_68 rfl rfl (sgN (by decide)) rfl (by decide) rfl rfl ⟨(Nat.le_of_ble_eq_true rfl), (Nat.le_of_ble_eq_true rfl)⟩ ⟨rfl, rfl⟩ ⟨(Nat.zero_le _), (Nat.zero_le _)⟩ (Nat.le_of_ble_eq_true rfl) ?_
          refine g_pick [1, 0] (lv' := [(0, .ref (ad 63)), (1, .int r54)]) rfl ?_
          exact w_X10_atom3_71 X hret r54 m68 hf
  · have hf := ie c8 hf
    refine g_aload_n X 1 dX10_atom3_11 rfl rfl ?_
    obtain ⟨r12, m12, h12, hf⟩ := bi_i hf
    refine g_eVI X 63 9 [] kV_X10_224 (c_X10_opens h12) dX10_atom3_12 rfl rfl (sgN (by decide)) rfl (by decide) rfl rfl ⟨(Nat.le_of_ble_eq_true rfl), (Nat.le_of_ble_eq_true rfl)⟩ ⟨rfl, rfl⟩ ⟨(Nat.zero_le _), (Nat.zero_le _)⟩ (Nat.le_of_ble_eq_true rfl) ?_
    refine g_if_eq X (tgt := 161) dX10_atom3_15 (by decide) (fun c15 => ?_) (fun c15 => ?_)
    · have hf := it c15 hf
      refine g_iload_n X 0 dX10_atom3_161 rfl rfl ?_
      obtain ⟨rfl, rfl⟩ := lf2 hf
      exact hret 162 _ dX10_atom3_162 rfl
    · have hf := ie c15 hf
      refine g_aload_n X 1 dX10_atom3_18 rfl rfl ?_
      obtain ⟨r19, m19, h19, hf⟩ := bi_i hf
      refine g_eVI X 63 9 [] kV_X10_254 (c_X10_atom4 h19) dX10_atom3_19 rfl rfl (sgN (by decide)) rfl (by decide) rfl rfl ⟨(Nat.le_of_ble_eq_true rfl), (Nat.le_of_ble_eq_true rfl)⟩ ⟨rfl, rfl⟩ ⟨(Nat.zero_le _), (Nat.zero_le _)⟩ (Nat.le_of_ble_eq_true rfl) ?_
      refine g_ineg X dX10_atom3_22 ?_
      refine g_istore_n X (lv' := [(1, .int (-r19)), (0, .ref (ad 63))]) dX10_atom3_23 rfl (by decide) rfl ?_
      refine g_aload_n X 1 dX10_atom3_24 rfl rfl ?_
      refine g_dup X dX10_atom3_25 rfl ?_
      refine g_getI X 63 9 25 dX10_atom3_26 (sgN (by decide)) rfl (by decide) rfl iw_X10 (by decide) rfl q_fl_X10_190 ?_
      refine g_iconst X (v := 1) dX10_atom3_29 (by decide) ?_
      refine g_isub X dX10_atom3_30 ?_
      refine g_putI X (tyf := tyX10) 63 9 25 dX10_atom3_31 (sgN (by decide)) rfl (by decide) rfl iw_X10 (by decide) rfl q_fl_X10_190 tyX10_ok nmX10 rfl rfl rfl ?_
      refine g_goto X (tgt := 161) dX10_atom3_34 (by decide) ?_
      refine g_iload_n X 0 dX10_atom3_161 rfl rfl ?_
      obtain ⟨rfl, rfl⟩ := lf2 hf
      exact hret 162 _ dX10_atom3_162 rfl
