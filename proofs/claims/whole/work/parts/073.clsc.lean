theorem kV_X3_56 : wcV RX3 56 RX3 yX3_advance cX3_advance 2 (none) 0 := ⟨q_ml_X3_56, q_im_yX3_advance, q_se_yX3_advance, q_in_X3, q_co_yX3_advance, by decide +kernel⟩

def X3_expect (p0 : Int32) (m0 : Mem) : Option (Mem) :=
  if (m0.1 30 3) = p0 then
    bv (X3_advance m0) fun m9 =>
    some m9
  else
    bv (X3_fail m0) fun m16 =>
    some m16
abbrev rmX3_expect : Room := { frames := 6, cells := 0, slots := 0, locals := 169 }

set_option maxRecDepth 100000 in
set_option maxHeartbeats 4000000 in
theorem c_X3_expect {l : Launch} {G : GG} {b : Nat} {σ : St} {p0 : Int32} {m0 : Mem} {m9 : Mem} (hRd : RdOk σ) (hf : X3_expect p0 m0 = some m9) : MtV l yX3_expect cX3_expect 2 (none) rmX3_expect G b σ m0 [.ref (σ.1 30), .int p0] (pEV σ m9) := by
  refine mtV_of (by decide) (Nat.le_of_ble_eq_true rfl) rfl (fun Γ hG X hnm hr => ?_)
  have hret : ∀ (pc : Nat) (lv : List (Nat × Value)), decode cX3_expect pc = .ok (.return_, 1) → Go Γ b σ 0 0 pc lv [] m9 := fun pc lv d => hr pc lv _ _ d ⟨rfl, rfl⟩
  show Go Γ b σ 0 0 0 [(0, .ref (σ.1 30)), (1, .int p0)] [] m0
  refine g_aload_n X 0 dX3_expect_0 rfl rfl ?_
  refine g_getI X 30 2 3 dX3_expect_1 (rd_lt hRd (by decide)) rfl (by decide) rfl iw_X3 (by decide) rfl q_fl_X3_22 ?_
  refine g_iload_n X 1 dX3_expect_4 rfl rfl ?_
  refine g_icmp_ne X (tgt := 15) dX3_expect_5 (by decide) (fun c5 => ?_) (fun c5 => ?_)
  · have hf := ie c5 hf
    refine g_aload_n X 0 dX3_expect_15 rfl rfl ?_
    obtain ⟨m16, h16, hf⟩ := bv_i hf
    refine g_eVV X 30 2 [] kV_X3_66 (c_X3_fail hRd h16) dX3_expect_16 rfl rfl (rd_lt hRd (by decide)) rfl (by decide) rfl rfl ⟨(Nat.le_of_ble_eq_true rfl), (Nat.le_of_ble_eq_true rfl)⟩ ⟨rfl, rfl⟩ ⟨(Nat.zero_le _), (Nat.zero_le _)⟩ (Nat.le_of_ble_eq_true rfl) ?_
    obtain rfl := lf1 hf
    exact hret 19 _ dX3_expect_19
  · have hf := it c5 hf
    refine g_aload_n X 0 dX3_expect_8 rfl rfl ?_
    obtain ⟨m9, h9, hf⟩ := bv_i hf
    refine g_eVV X 30 2 [] kV_X3_56 (c_X3_advance hRd h9) dX3_expect_9 rfl rfl (rd_lt hRd (by decide)) rfl (by decide) rfl rfl ⟨(Nat.le_of_ble_eq_true rfl), (Nat.le_of_ble_eq_true rfl)⟩ ⟨rfl, rfl⟩ ⟨(Nat.zero_le _), (Nat.zero_le _)⟩ (Nat.le_of_ble_eq_true rfl) ?_
    refine g_goto X (tgt := 19) dX3_expect_12 (by decide) ?_
    obtain rfl := lf1 hf
    exact hret 19 _ dX3_expect_19

def X3_emit (p0 : Int32) (m0 : Mem) : Option (Mem) :=
  if (m0.1 30 9) < (160 : Int32) then
    if inn (m0.1 30 9) 160 then
    some (pI (pI m0 32 (m0.1 30 9).toNatClampNeg p0) 30 9 (((pI m0 32 (m0.1 30 9).toNatClampNeg p0).1 30 9) + (1 : Int32)))
    else none
  else
    some m0
abbrev rmX3_emit : Room := { frames := 0, cells := 0, slots := 0, locals := 0 }

set_option maxRecDepth 100000 in
set_option maxHeartbeats 4000000 in
theorem c_X3_emit {l : Launch} {G : GG} {b : Nat} {σ : St} {p0 : Int32} {m0 : Mem} {m9 : Mem} (hRd : RdOk σ) (hf : X3_emit p0 m0 = some m9) : MtV l yX3_emit cX3_emit 2 (none) rmX3_emit G b σ m0 [.ref (σ.1 30), .int p0] (pEV σ m9) := by
  refine mtV_of (by decide) (Nat.le_of_ble_eq_true rfl) rfl (fun Γ hG X hnm hr => ?_)
  have hret : ∀ (pc : Nat) (lv : List (Nat × Value)), decode cX3_emit pc = .ok (.return_, 1) → Go Γ b σ 0 0 pc lv [] m9 := fun pc lv d => hr pc lv _ _ d ⟨rfl, rfl⟩
  show Go Γ b σ 0 0 0 [(0, .ref (σ.1 30)), (1, .int p0)] [] m0
  refine g_aload_n X 0 dX3_emit_0 rfl rfl ?_
  refine g_getI X 30 2 9 dX3_emit_1 (rd_lt hRd (by decide)) rfl (by decide) rfl iw_X3 (by decide) rfl q_fl_X3_40 ?_
  refine g_sipush X (v := 160) dX3_emit_4 (by decide) ?_
  refine g_icmp_lt X (tgt := 11) dX3_emit_7 (by decide) (fun c7 => ?_) (fun c7 => ?_)
  · have hf := it c7 hf
    refine g_aload_n X 0 dX3_emit_11 rfl rfl ?_
    refine g_getr X (x := σ.1 32) 30 2 8 dX3_emit_12 (rd_lt hRd (by decide)) rfl (by decide) rfl iw_X3 (by decide) rfl q_fl_X3_37 hRd.2.2.1 ?_
    refine g_aload_n X 0 dX3_emit_15 rfl rfl ?_
    refine g_getI X 30 2 9 dX3_emit_16 (rd_lt hRd (by decide)) rfl (by decide) rfl iw_X3 (by decide) rfl q_fl_X3_40 ?_
    refine g_iload_n X 1 dX3_emit_19 rfl rfl ?_
    obtain ⟨h20, hf⟩ := grd hf
    refine g_iast X 32 (n := 160) dX3_emit_20 (rd_lt hRd (by decide)) rfl hRd.2.2.2.2 h20 ?_
    refine g_aload_n X 0 dX3_emit_21 rfl rfl ?_
    refine g_dup X dX3_emit_22 rfl ?_
    refine g_getI X 30 2 9 dX3_emit_23 (rd_lt hRd (by decide)) rfl (by decide) rfl iw_X3 (by decide) rfl q_fl_X3_40 ?_
    refine g_iconst X (v := 1) dX3_emit_26 (by decide) ?_
    refine g_iadd X dX3_emit_27 ?_
    refine g_putI X (tyf := tyX3) 30 2 9 dX3_emit_28 (rd_lt hRd (by decide)) rfl (by decide) rfl iw_X3 (by decide) rfl q_fl_X3_40 tyX3_ok nmX3 rfl rfl rfl ?_
    obtain rfl := lf1 hf
    exact hret 31 _ dX3_emit_31
  · have hf := ie c7 hf
    obtain rfl := lf1 hf
    exact hret 10 _ dX3_emit_10

def X4_lay (p0 : Int32) (p1 : Int32) (p2 : Int32) (m0 : Mem) : Option (Int32 × Mem) :=
  if inn ((p0 * (8 : Int32)) + p1) 64 then
  if inn ((p0 * (8 : Int32)) + p1) 64 then
  if inn ((p1 * (8 : Int32)) + p0) 64 then
  some (m0.1 2 ((p0 * (8 : Int32)) + p1).toNatClampNeg, pI (pI (pI (pI m0 2 ((p0 * (8 : Int32)) + p1).toNatClampNeg p2) 2 ((p1 * (8 : Int32)) + p0).toNatClampNeg p2) 1 3 (0 : Int32)) 1 4 (((pI (pI (pI m0 2 ((p0 * (8 : Int32)) + p1).toNatClampNeg p2) 2 ((p1 * (8 : Int32)) + p0).toNatClampNeg p2) 1 3 (0 : Int32)).1 1 4) + (1 : Int32)))
  else none
  else none
  else none
abbrev rmX4_lay : Room := { frames := 0, cells := 0, slots := 0, locals := 0 }

set_option maxRecDepth 100000 in
set_option maxHeartbeats 4000000 in
theorem c_X4_lay {l : Launch} {G : GG} {b : Nat} {ad : Nat → Nat} {nt : Nat} {z : Nat → Nat} {p0 : Int32} {p1 : Int32} {p2 : Int32} {m0 : Mem} {r9 : Int32} {m9 : Mem} (hf : X4_lay p0 p1 p2 m0 = some (r9, m9)) : MtI l yX4_lay cX4_lay 5 (some .int) rmX4_lay G b (sg ad nt z) m0 [.ref (ad 1), .int p0, .int p1, .int p2] (pEI r9 (sg ad nt z) m9) := by
  refine mtI_of (by decide) (Nat.le_of_ble_eq_true rfl) .int rfl (fun Γ hG X hnm hr => ?_)
  have hret : ∀ (pc : Nat) (lv : List (Nat × Value)), decode cX4_lay pc = .ok (.ireturn, 1) → narrow .int (.int r9) = .int r9 → Go Γ b (sg ad nt z) 0 0 pc lv [.int r9] m9 := fun pc lv d hn => hr pc lv _ _ _ d ⟨rfl, rfl, rfl⟩ hn
  show Go Γ b (sg ad nt z) 0 0 0 [(0, .ref (ad 1)), (1, .int p0), (2, .int p1), (3, .int p2)] [] m0
  refine g_aload_n X 0 dX4_lay_0 rfl rfl ?_
  refine g_getr X (x := ad 2) 1 3 0 dX4_lay_1 (sgN (by decide)) rfl (by decide) rfl iw_X4 (by decide) rfl q_fl_X4_9 rfl ?_
  refine g_iload_n X 1 dX4_lay_4 rfl rfl ?_
  refine g_bipush X (v := 8) dX4_lay_5 (by decide) ?_
  refine g_imul X dX4_lay_7 ?_
  refine g_iload_n X 2 dX4_lay_8 rfl rfl ?_
  refine g_iadd X dX4_lay_9 ?_
  obtain ⟨h10, hf⟩ := grd hf
  refine g_iald X 2 (n := 64) dX4_lay_10 (sgN (by decide)) rfl rfl h10 ?_
  refine g_istore X (lv' := [(4, .int (m0.1 2 ((p0 * (8 : Int32)) + p1).toNatClampNeg)), (0, .ref (ad 1)), (1, .int p0), (2, .int p1), (3, .int p2)]) dX4_lay_11 (by decide) rfl ?_
  refine g_aload_n X 1 dX4_lay_13 rfl rfl ?_
  refine g_getr X (x := ad 2) 1 3 0 dX4_lay_14 (sgN (by decide)) rfl (by decide) rfl iw_X4 (by decide) rfl q_fl_X4_9 rfl ?_
  refine g_iload_n X 2 dX4_lay_17 rfl rfl ?_
  refine g_bipush X (v := 8) dX4_lay_18 (by decide) ?_
  refine g_imul X dX4_lay_20 ?_
  refine g_iload_n X 3 dX4_lay_21 rfl rfl ?_
  refine g_iadd X dX4_lay_22 ?_
  refine g_iload_n X 4 dX4_lay_23 rfl rfl ?_
  obtain ⟨h24, hf⟩ := grd hf
  refine g_iast X 2 (n := 64) dX4_lay_24 (sgN (by decide)) rfl rfl h24 ?_
  refine g_aload_n X 1 dX4_lay_25 rfl rfl ?_
  refine g_getr X (x := ad 2) 1 3 0 dX4_lay_26 (sgN (by decide)) rfl (by decide) rfl iw_X4 (by decide) rfl q_fl_X4_9 rfl ?_
  refine g_iload_n X 3 dX4_lay_29 rfl rfl ?_
  refine g_bipush X (v := 8) dX4_lay_30 (by decide) ?_
  refine g_imul X dX4_lay_32 ?_
  refine g_iload_n X 2 dX4_lay_33 rfl rfl ?_
  refine g_iadd X dX4_lay_34 ?_
  refine g_iload_n X 4 dX4_lay_35 rfl rfl ?_
  obtain ⟨h36, hf⟩ := grd hf
  refine g_iast X 2 (n := 64) dX4_lay_36 (sgN (by decide)) rfl rfl h36 ?_
  refine g_aload_n X 1 dX4_lay_37 rfl rfl ?_
  refine g_iconst X (v := 0) dX4_lay_38 (by decide) ?_
  refine g_putI X (tyf := tyX4) 1 3 3 dX4_lay_39 (sgN (by decide)) rfl (by decide) rfl iw_X4 (by decide) rfl q_fl_X4_21 tyX4_ok nmX4 rfl rfl rfl ?_
  refine g_aload_n X 1 dX4_lay_42 rfl rfl ?_
  refine g_dup X dX4_lay_43 rfl ?_
  refine g_getI X 1 3 4 dX4_lay_44 (sgN (by decide)) rfl (by decide) rfl iw_X4 (by decide) rfl q_fl_X4_25 ?_
  refine g_iconst X (v := 1) dX4_lay_47 (by decide) ?_
  refine g_iadd X dX4_lay_48 ?_
  refine g_putI X (tyf := tyX4) 1 3 4 dX4_lay_49 (sgN (by decide)) rfl (by decide) rfl iw_X4 (by decide) rfl q_fl_X4_25 tyX4_ok nmX4 rfl rfl rfl ?_
  refine g_iload X 0 dX4_lay_52 rfl ?_
  obtain ⟨rfl, rfl⟩ := lf2 hf
  exact hret 54 _ dX4_lay_54 rfl

def X4_becomeK (m0 : Mem) : Option (Mem) :=
  if (¬ (0 : Int32) < 0 ∧ ¬ (0 : Int32) < 0 ∧ ¬ (64 : Int32) < 0 ∧ (0 : Int32).toNatClampNeg + (64 : Int32).toNatClampNeg ≤ 64 ∧ (0 : Int32).toNatClampNeg + (64 : Int32).toNatClampNeg ≤ 64) then
  some (pI (pI (pC m0 2 13 (0 : Int32).toNatClampNeg (0 : Int32).toNatClampNeg (64 : Int32).toNatClampNeg) 12 3 (0 : Int32)) 12 4 (((pI (pC m0 2 13 (0 : Int32).toNatClampNeg (0 : Int32).toNatClampNeg (64 : Int32).toNatClampNeg) 12 3 (0 : Int32)).1 12 4) + (1 : Int32)))
  else none
abbrev rmX4_becomeK : Room := { frames := 1, cells := 0, slots := 0, locals := 60 }

set_option maxRecDepth 100000 in
set_option maxHeartbeats 4000000 in
theorem c_X4_becomeK {l : Launch} {G : GG} {b : Nat} {ad : Nat → Nat} {nt : Nat} {z : Nat → Nat} {m0 : Mem} {m9 : Mem} (hf : X4_becomeK m0 = some m9) : MtV l yX4_become cX4_become 2 (none) rmX4_becomeK G b (sg ad nt z) m0 [.ref (ad 12), .ref (ad 1)] (pEV (sg ad nt z) m9) := by
  refine mtV_of (by decide) (Nat.le_of_ble_eq_true rfl) rfl (fun Γ hG X hnm hr => ?_)
  have hret : ∀ (pc : Nat) (lv : List (Nat × Value)), decode cX4_become pc = .ok (.return_, 1) → Go Γ b (sg ad nt z) 0 0 pc lv [] m9 := fun pc lv d => hr pc lv _ _ d ⟨rfl, rfl⟩
  show Go Γ b (sg ad nt z) 0 0 0 [(0, .ref (ad 12)), (1, .ref (ad 1))] [] m0
  refine g_aload_n X 1 dX4_become_0 rfl rfl ?_
  refine g_getr X (x := ad 2) 1 3 0 dX4_become_1 (sgN (by decide)) rfl (by decide) rfl iw_X4 (by decide) rfl q_fl_X4_9 rfl ?_
  refine g_iconst X (v := 0) dX4_become_4 (by decide) ?_
  refine g_aload_n X 0 dX4_become_5 rfl rfl ?_
  refine g_getr X (x := ad 13) 12 3 0 dX4_become_6 (sgN (by decide)) rfl (by decide) rfl iw_X4 (by decide) rfl q_fl_X4_9 rfl ?_
  refine g_iconst X (v := 0) dX4_become_9 (by decide) ?_
  refine g_bipush X (v := 64) dX4_become_10 (by decide) ?_
  obtain ⟨⟨ga, gb, gc, gd, ge⟩, hf⟩ := grd hf
  refine g_copyi X 2 13 dX4_become_12 q_ml_X4_28 q_native_copy q_static_copy q_in_Sys (sgN (by decide)) rfl rfl (sgN (by decide)) rfl rfl ga gb gc gd ge (by decide) (by decide) ?_
  refine g_aload_n X 0 dX4_become_15 rfl rfl ?_
  refine g_iconst X (v := 0) dX4_become_16 (by decide) ?_
  refine g_putI X (tyf := tyX4) 12 3 3 dX4_become_17 (sgN (by decide)) rfl (by decide) rfl iw_X4 (by decide) rfl q_fl_X4_21 tyX4_ok nmX4 rfl rfl rfl ?_
  refine g_aload_n X 0 dX4_become_20 rfl rfl ?_
  refine g_dup X dX4_become_21 rfl ?_
  refine g_getI X 12 3 4 dX4_become_22 (sgN (by decide)) rfl (by decide) rfl iw_X4 (by decide) rfl q_fl_X4_25 ?_
  refine g_iconst X (v := 1) dX4_become_25 (by decide) ?_
  refine g_iadd X dX4_become_26 ?_
  refine g_putI X (tyf := tyX4) 12 3 4 dX4_become_27 (sgN (by decide)) rfl (by decide) rfl iw_X4 (by decide) rfl q_fl_X4_25 tyX4_ok nmX4 rfl rfl rfl ?_
  obtain rfl := lf1 hf
  exact hret 30 _ dX4_become_30

def X4_becomeB (m0 : Mem) : Option (Mem) :=
  if (¬ (0 : Int32) < 0 ∧ ¬ (0 : Int32) < 0 ∧ ¬ (64 : Int32) < 0 ∧ (0 : Int32).toNatClampNeg + (64 : Int32).toNatClampNeg ≤ 64 ∧ (0 : Int32).toNatClampNeg + (64 : Int32).toNatClampNeg ≤ 64) then
  some (pI (pI (pC m0 13 2 (0 : Int32).toNatClampNeg (0 : Int32).toNatClampNeg (64 : Int32).toNatClampNeg) 1 3 (0 : Int32)) 1 4 (((pI (pC m0 13 2 (0 : Int32).toNatClampNeg (0 : Int32).toNatClampNeg (64 : Int32).toNatClampNeg) 1 3 (0 : Int32)).1 1 4) + (1 : Int32)))
  else none
abbrev rmX4_becomeB : Room := { frames := 1, cells := 0, slots := 0, locals := 60 }

set_option maxRecDepth 100000 in
set_option maxHeartbeats 4000000 in
theorem c_X4_becomeB {l : Launch} {G : GG} {b : Nat} {ad : Nat → Nat} {nt : Nat} {z : Nat → Nat} {m0 : Mem} {m9 : Mem} (hf : X4_becomeB m0 = some m9) : MtV l yX4_become cX4_become 2 (none) rmX4_becomeB G b (sg ad nt z) m0 [.ref (ad 1), .ref (ad 12)] (pEV (sg ad nt z) m9) := by
  refine mtV_of (by decide) (Nat.le_of_ble_eq_true rfl) rfl (fun Γ hG X hnm hr => ?_)
  have hret : ∀ (pc : Nat) (lv : List (Nat × Value)), decode cX4_become pc = .ok (.return_, 1) → Go Γ b (sg ad nt z) 0 0 pc lv [] m9 := fun pc lv d => hr pc lv _ _ d ⟨rfl, rfl⟩
  show Go Γ b (sg ad nt z) 0 0 0 [(0, .ref (ad 1)), (1, .ref (ad 12))] [] m0
  refine g_aload_n X 1 dX4_become_0 rfl rfl ?_
  refine g_getr X (x := ad 13) 12 3 0 dX4_become_1 (sgN (by decide)) rfl (by decide) rfl iw_X4 (by decide) rfl q_fl_X4_9 rfl ?_
  refine g_iconst X (v := 0) dX4_become_4 (by decide) ?_
  refine g_aload_n X 0 dX4_become_5 rfl rfl ?_
  refine g_getr X (x := ad 2) 1 3 0 dX4_become_6 (sgN (by decide)) rfl (by decide) rfl iw_X4 (by decide) rfl q_fl_X4_9 rfl ?_
  refine g_iconst X (v := 0) dX4_become_9 (by decide) ?_
  refine g_bipush X (v := 64) dX4_become_10 (by decide) ?_
  obtain ⟨⟨ga, gb, gc, gd, ge⟩, hf⟩ := grd hf
  refine g_copyi X 13 2 dX4_become_12 q_ml_X4_28 q_native_copy q_static_copy q_in_Sys (sgN (by decide)) rfl rfl (sgN (by decide)) rfl rfl ga gb gc gd ge (by decide) (by decide) ?_
  refine g_aload_n X 0 dX4_become_15 rfl rfl ?_
  refine g_iconst X (v := 0) dX4_become_16 (by decide) ?_
  refine g_putI X (tyf := tyX4) 1 3 3 dX4_become_17 (sgN (by decide)) rfl (by decide) rfl iw_X4 (by decide) rfl q_fl_X4_21 tyX4_ok nmX4 rfl rfl rfl ?_
  refine g_aload_n X 0 dX4_become_20 rfl rfl ?_
  refine g_dup X dX4_become_21 rfl ?_
  refine g_getI X 1 3 4 dX4_become_22 (sgN (by decide)) rfl (by decide) rfl iw_X4 (by decide) rfl q_fl_X4_25 ?_
  refine g_iconst X (v := 1) dX4_become_25 (by decide) ?_
  refine g_iadd X dX4_become_26 ?_
  refine g_putI X (tyf := tyX4) 1 3 4 dX4_become_27 (sgN (by decide)) rfl (by decide) rfl iw_X4 (by decide) rfl q_fl_X4_25 tyX4_ok nmX4 rfl rfl rfl ?_
  obtain rfl := lf1 hf
  exact hret 30 _ dX4_become_30

def X4_size_37 (k4 : Int32 → Int32 → Mem → Option (Int32 × Mem)) (k14 : Int32 → Int32 → Int32 → Mem → Option (Int32 × Mem)) (v1 : Int32) (v2 : Int32) (v3 : Int32) (m0 : Mem) : Option (Int32 × Mem) :=
  k14 v1 v2 (v3 + (1 : Int32)) m0
def X4_size_14 (k4 : Int32 → Int32 → Mem → Option (Int32 × Mem)) : Nat → Int32 → Int32 → Int32 → Mem → Option (Int32 × Mem)
  | 0, _, _, _, _ => none
  | n + 1, v1, v2, v3, m0 =>
    if (8 : Int32) ≤ v3 then
      k4 v1 (v2 + (1 : Int32)) m0
    else
      if inn ((v2 * (8 : Int32)) + v3) 64 then
      if (m0.1 2 ((v2 * (8 : Int32)) + v3).toNatClampNeg) = 0 then
        X4_size_37 k4 (X4_size_14 k4 n) v1 v2 v3 m0
      else
        X4_size_37 k4 (X4_size_14 k4 n) (v1 + (1 : Int32)) v2 v3 m0
      else none
def X4_size_4 : Nat → Int32 → Int32 → Mem → Option (Int32 × Mem)
  | 0, _, _, _ => none
  | n + 1, v1, v2, m0 =>
    if (8 : Int32) ≤ v2 then
      some (v1, m0)
    else
      X4_size_14 (X4_size_4 n) 10000 v1 v2 (v2 + (1 : Int32)) m0
def X4_size (m0 : Mem) : Option (Int32 × Mem) :=
  X4_size_4 10000 (0 : Int32) (0 : Int32) m0
abbrev rmX4_size : Room := { frames := 0, cells := 0, slots := 0, locals := 0 }
set_option maxRecDepth 100000 in
set_option maxHeartbeats 4000000 in
theorem w_X4_size_37 {Γ : Ga} {b : Nat} {ad : Nat → Nat} {nt : Nat} {z : Nat → Nat} {k4 : Int32 → Int32 → Mem → Option (Int32 × Mem)} {k14 : Int32 → Int32 → Int32 → Mem → Option (Int32 × Mem)} {r9 : Int32} {m9 : Mem} (X : Cx Γ b cX4_size 4 RX4 (some .int) rmX4_size) (hret : ∀ (pc : Nat) (lv : List (Nat × Value)), decode cX4_size pc = .ok (.ireturn, 1) → narrow .int (.int r9) = .int r9 → Go Γ b (sg ad nt z) 0 0 pc lv [.int r9] m9) (hk4 : ∀ (v1 : Int32) (v2 : Int32) (m0 : Mem), k4 v1 v2 m0 = some (r9, m9) → Go Γ b (sg ad nt z) 0 0 4 [(0, .ref (ad 1)), (1, .int v1), (2, .int v2)] [] m0) (hk14 : ∀ (v1 : Int32) (v2 : Int32) (v3 : Int32) (m0 : Mem), k14 v1 v2 v3 m0 = some (r9, m9) → Go Γ b (sg ad nt z) 0 0 14 [(0, .ref (ad 1)), (1, .int v1), (2, .int v2), (3, .int v3)] [] m0) (v1 : Int32) (v2 : Int32) (v3 : Int32) (m0 : Mem) (hf : X4_size_37 k4 k14 v1 v2 v3 m0 = some (r9, m9)) : Go Γ b (sg ad nt z) 0 0 37 [(0, .ref (ad 1)), (1, .int v1), (2, .int v2), (3, .int v3)] [] m0 := by
  refine g_iinc X 3 (v := v3 + (1 : Int32)) (lv' := [(3, .int (v3 + (1 : Int32))), (0, .ref (ad 1)), (1, .int v1), (2, .int v2)]) dX4_size_37 rfl rfl (by decide) rfl ?_
  refine g_goto X (tgt := 14) dX4_size_40 (by decide) ?_
  refine g_pick [1, 2, 3, 0] (lv' := [(0, .ref (ad 1)), (1, .int v1), (2, .int v2), (3, .int (v3 + (1 : Int32)))]) rfl ?_
  exact hk14 v1 v2 (v3 + (1 : Int32)) m0 hf
set_option maxRecDepth 100000 in
set_option maxHeartbeats 4000000 in
theorem w_X4_size_14 {Γ : Ga} {b : Nat} {ad : Nat → Nat} {nt : Nat} {z : Nat → Nat} {k4 : Int32 → Int32 → Mem → Option (Int32 × Mem)} {r9 : Int32} {m9 : Mem} (X : Cx Γ b cX4_size 4 RX4 (some .int) rmX4_size) (hret : ∀ (pc : Nat) (lv : List (Nat × Value)), decode cX4_size pc = .ok (.ireturn, 1) → narrow .int (.int r9) = .int r9 → Go Γ b (sg ad nt z) 0 0 pc lv [.int r9] m9) (hk4 : ∀ (v1 : Int32) (v2 : Int32) (m0 : Mem), k4 v1 v2 m0 = some (r9, m9) → Go Γ b (sg ad nt z) 0 0 4 [(0, .ref (ad 1)), (1, .int v1), (2, .int v2)] [] m0) : ∀ (n : Nat) (v1 : Int32) (v2 : Int32) (v3 : Int32) (m0 : Mem), X4_size_14 k4 n v1 v2 v3 m0 = some (r9, m9) → Go Γ b (sg ad nt z) 0 0 14 [(0, .ref (ad 1)), (1, .int v1), (2, .int v2), (3, .int v3)] [] m0 := by
  intro n
  induction n with
  | zero =>
    intro v1 v2 v3 m0 hf
    cases hf
  | succ n ih =>
    intro v1 v2 v3 m0 hf
    refine g_iload_n X 3 dX4_size_14 rfl rfl ?_
    refine g_bipush X (v := 8) dX4_size_15 (by decide) ?_
    refine g_icmp_ge X (tgt := 43) dX4_size_17 (by decide) (fun c17 => ?_) (fun c17 => ?_)
    · have hf := it c17 hf
      refine g_iinc X 2 (v := v2 + (1 : Int32)) (lv' := [(2, .int (v2 + (1 : Int32))), (0, .ref (ad 1)), (1, .int v1), (3, .int v3)]) dX4_size_43 rfl rfl (by decide) rfl ?_
      refine g_goto X (tgt := 4) dX4_size_46 (by decide) ?_
      refine g_pick [1, 2, 0] (lv' := [(0, .ref (ad 1)), (1, .int v1), (2, .int (v2 + (1 : Int32)))]) rfl ?_
      exact hk4 v1 (v2 + (1 : Int32)) m0 hf
    · have hf := ie c17 hf
      refine g_aload_n X 0 dX4_size_20 rfl rfl ?_
      refine g_getr X (x := ad 2) 1 3 0 dX4_size_21 (sgN (by decide)) rfl (by decide) rfl iw_X4 (by decide) rfl q_fl_X4_9 rfl ?_
      refine g_iload_n X 2 dX4_size_24 rfl rfl ?_
      refine g_bipush X (v := 8) dX4_size_25 (by decide) ?_
      refine g_imul X dX4_size_27 ?_
      refine g_iload_n X 3 dX4_size_28 rfl rfl ?_
      refine g_iadd X dX4_size_29 ?_
      obtain ⟨h30, hf⟩ := grd hf
      refine g_iald X 2 (n := 64) dX4_size_30 (sgN (by decide)) rfl rfl h30 ?_
      refine g_if_eq X (tgt := 37) dX4_size_31 (by decide) (fun c31 => ?_) (fun c31 => ?_)
      · have hf := it c31 hf
        exact w_X4_size_37 X hret hk4 ih v1 v2 v3 m0 hf
      · have hf := ie c31 hf
        refine g_iinc X 1 (v := v1 + (1 : Int32)) (lv' := [(1, .int (v1 + (1 : Int32))), (0, .ref (ad 1)), (2, .int v2), (3, .int v3)]) dX4_size_34 rfl rfl (by decide) rfl ?_
        refine g_pick [1, 0, 2, 3] (lv' := [(0, .ref (ad 1)), (1, .int (v1 + (1 : Int32))), (2, .int v2), (3, .int v3)]) rfl ?_
        exact w_X4_size_37 X hret hk4 ih (v1 + (1 : Int32)) v2 v3 m0 hf
set_option maxRecDepth 100000 in
set_option maxHeartbeats 4000000 in
theorem w_X4_size_4 {Γ : Ga} {b : Nat} {ad : Nat → Nat} {nt : Nat} {z : Nat → Nat} {r9 : Int32} {m9 : Mem} (X : Cx Γ b cX4_size 4 RX4 (some .int) rmX4_size) (hret : ∀ (pc : Nat) (lv : List (Nat × Value)), decode cX4_size pc = .ok (.ireturn, 1) → narrow .int (.int r9) = .int r9 → Go Γ b (sg ad nt z) 0 0 pc lv [.int r9] m9) : ∀ (n : Nat) (v1 : Int32) (v2 : Int32) (m0 : Mem), X4_size_4 n v1 v2 m0 = some (r9, m9) → Go Γ b (sg ad nt z) 0 0 4 [(0, .ref (ad 1)), (1, .int v1), (2, .int v2)] [] m0 := by
  intro n
  induction n with
  | zero =>
    intro v1 v2 m0 hf
    cases hf
  | succ n ih =>
    intro v1 v2 m0 hf
    refine g_iload_n X 2 dX4_size_4 rfl rfl ?_
    refine g_bipush X (v := 8) dX4_size_5 (by decide) ?_
    refine g_icmp_ge X (tgt := 49) dX4_size_7 (by decide) (fun c7 => ?_) (fun c7 => ?_)
    · have hf := it c7 hf
      refine g_iload_n X 1 dX4_size_49 rfl rfl ?_
      obtain ⟨rfl, rfl⟩ := lf2 hf
      exact hret 50 _ dX4_size_50 rfl
    · have hf := ie c7 hf
      refine g_iload_n X 2 dX4_size_10 rfl rfl ?_
      refine g_iconst X (v := 1) dX4_size_11 (by decide) ?_
      refine g_iadd X dX4_size_12 ?_
      refine g_istore_n X (lv' := [(3, .int (v2 + (1 : Int32))), (0, .ref (ad 1)), (1, .int v1), (2, .int v2)]) dX4_size_13 rfl (by decide) rfl ?_
      refine g_pick [1, 2, 3, 0] (lv' := [(0, .ref (ad 1)), (1, .int v1), (2, .int v2), (3, .int (v2 + (1 : Int32)))]) rfl ?_
      exact w_X4_size_14 X hret ih 10000 v1 v2 (v2 + (1 : Int32)) m0 hf
set_option maxRecDepth 100000 in
set_option maxHeartbeats 4000000 in
theorem c_X4_size {l : Launch} {G : GG} {b : Nat} {ad : Nat → Nat} {nt : Nat} {z : Nat → Nat} {m0 : Mem} {r9 : Int32} {m9 : Mem} (hf : X4_size m0 = some (r9, m9)) : MtI l yX4_size cX4_size 4 (some .int) rmX4_size G b (sg ad nt z) m0 [.ref (ad 1)] (pEI r9 (sg ad nt z) m9) := by
  refine mtI_of (by decide) (Nat.le_of_ble_eq_true rfl) .int rfl (fun Γ hG X hnm hr => ?_)
  have hret : ∀ (pc : Nat) (lv : List (Nat × Value)), decode cX4_size pc = .ok (.ireturn, 1) → narrow .int (.int r9) = .int r9 → Go Γ b (sg ad nt z) 0 0 pc lv [.int r9] m9 := fun pc lv d hn => hr pc lv _ _ _ d ⟨rfl, rfl, rfl⟩ hn
  show Go Γ b (sg ad nt z) 0 0 0 [(0, .ref (ad 1))] [] m0
  refine g_iconst X (v := 0) dX4_size_0 (by decide) ?_
  refine g_istore_n X (lv' := [(1, .int (0 : Int32)), (0, .ref (ad 1))]) dX4_size_1 rfl (by decide) rfl ?_
  refine g_iconst X (v := 0) dX4_size_2 (by decide) ?_
  refine g_istore_n X (lv' := [(2, .int (0 : Int32)), (1, .int (0 : Int32)), (0, .ref (ad 1))]) dX4_size_3 rfl (by decide) rfl ?_
  refine g_pick [2, 1, 0] (lv' := [(0, .ref (ad 1)), (1, .int (0 : Int32)), (2, .int (0 : Int32))]) rfl ?_
  exact w_X4_size_4 X hret 10000 (0 : Int32) (0 : Int32) m0 hf

def X4_walked (p0 : Int32) (p1 : Int32) (p2 : Int32) (m0 : Mem) : Option (Int32 × Mem) :=
  bv (X4_spreadS p0 p2 (0 : Int32) m0) fun m8 =>
  if inn p1 8 then
  if (m8.1 4 p1.toNatClampNeg) = (999 : Int32) then
    some ((-1 : Int32), m8)
  else
    if inn p1 8 then
    some (m8.1 4 p1.toNatClampNeg, m8)
    else none
  else none
abbrev rmX4_walked : Room := { frames := 1, cells := 0, slots := 0, locals := 29 }

set_option maxRecDepth 100000 in
set_option maxHeartbeats 4000000 in
theorem c_X4_walked {l : Launch} {G : GG} {b : Nat} {ad : Nat → Nat} {nt : Nat} {z : Nat → Nat} {p0 : Int32} {p1 : Int32} {p2 : Int32} {m0 : Mem} {r9 : Int32} {m9 : Mem} (hf : X4_walked p0 p1 p2 m0 = some (r9, m9)) : MtI l yX4_walked cX4_walked 4 (some .int) rmX4_walked G b (sg ad nt z) m0 [.ref (ad 1), .int p0, .int p1, .int p2] (pEI r9 (sg ad nt z) m9) := by
  refine mtI_of (by decide) (Nat.le_of_ble_eq_true rfl) .int rfl (fun Γ hG X hnm hr => ?_)
  have hret : ∀ (pc : Nat) (lv : List (Nat × Value)), decode cX4_walked pc = .ok (.ireturn, 1) → narrow .int (.int r9) = .int r9 → Go Γ b (sg ad nt z) 0 0 pc lv [.int r9] m9 := fun pc lv d hn => hr pc lv _ _ _ d ⟨rfl, rfl, rfl⟩ hn
  show Go Γ b (sg ad nt z) 0 0 0 [(0, .ref (ad 1)), (1, .int p0), (2, .int p1), (3, .int p2)] [] m0
  refine g_aload_n X 0 dX4_walked_0 rfl rfl ?_
  refine g_iload_n X 1 dX4_walked_1 rfl rfl ?_
  refine g_iload_n X 3 dX4_walked_2 rfl rfl ?_
  refine g_aload_n X 0 dX4_walked_3 rfl rfl ?_
  refine g_getr X (x := ad 4) 1 3 2 dX4_walked_4 (sgN (by decide)) rfl (by decide) rfl iw_X4 (by decide) rfl q_fl_X4_18 rfl ?_
  refine g_iconst X (v := 0) dX4_walked_7 (by decide) ?_
  obtain ⟨m8, h8, hf⟩ := bv_i hf
  refine g_eVV X 1 3 [.int p0, .int p2, .ref (ad 4), .int (0 : Int32)] kV_X4_34 (c_X4_spreadS h8) dX4_walked_8 rfl rfl (sgN (by decide)) rfl (by decide) rfl rfl ⟨(Nat.le_of_ble_eq_true rfl), (Nat.le_of_ble_eq_true rfl)⟩ ⟨rfl, rfl⟩ ⟨(Nat.zero_le _), (Nat.zero_le _)⟩ (Nat.le_of_ble_eq_true rfl) ?_
  refine g_aload_n X 0 dX4_walked_11 rfl rfl ?_
  refine g_getr X (x := ad 4) 1 3 2 dX4_walked_12 (sgN (by decide)) rfl (by decide) rfl iw_X4 (by decide) rfl q_fl_X4_18 rfl ?_
  refine g_iload_n X 2 dX4_walked_15 rfl rfl ?_
  obtain ⟨h16, hf⟩ := grd hf
  refine g_iald X 4 (n := 8) dX4_walked_16 (sgN (by decide)) rfl rfl h16 ?_
  refine g_sipush X (v := 999) dX4_walked_17 (by decide) ?_
  refine g_icmp_ne X (tgt := 27) dX4_walked_20 (by decide) (fun c20 => ?_) (fun c20 => ?_)
  · have hf := ie c20 hf
    refine g_aload_n X 0 dX4_walked_27 rfl rfl ?_
    refine g_getr X (x := ad 4) 1 3 2 dX4_walked_28 (sgN (by decide)) rfl (by decide) rfl iw_X4 (by decide) rfl q_fl_X4_18 rfl ?_
    refine g_iload_n X 2 dX4_walked_31 rfl rfl ?_
    obtain ⟨h32, hf⟩ := grd hf
    refine g_iald X 4 (n := 8) dX4_walked_32 (sgN (by decide)) rfl rfl h32 ?_
    obtain ⟨rfl, rfl⟩ := lf2 hf
    exact hret 33 _ dX4_walked_33 rfl
  · have hf := it c20 hf
    refine g_iconst X (v := -1) dX4_walked_23 (by decide) ?_
    refine g_goto X (tgt := 33) dX4_walked_24 (by decide) ?_
    obtain ⟨rfl, rfl⟩ := lf2 hf
    exact hret 33 _ dX4_walked_33 rfl

def X4_reach_43 (k16 : Int32 → Int32 → Mem → Option (Int32 × Mem)) (v3 : Int32) (v4 : Int32) (m0 : Mem) : Option (Int32 × Mem) :=
  k16 v3 (v4 + (1 : Int32)) m0
def X4_reach_16 : Nat → Int32 → Int32 → Mem → Option (Int32 × Mem)
  | 0, _, _, _ => none
  | n + 1, v3, v4, m0 =>
    if (8 : Int32) ≤ v4 then
      some (v3, m0)
    else
      if inn v4 8 then
      if (m0.1 4 v4.toNatClampNeg) = (999 : Int32) then
        X4_reach_43 (X4_reach_16 n) v3 v4 m0
      else
        X4_reach_43 (X4_reach_16 n) (v3 ||| ((1 : Int32) <<< (v4 &&& 31))) v4 m0
      else none
def X4_reach (p0 : Int32) (p1 : Int32) (m0 : Mem) : Option (Int32 × Mem) :=
  bv (X4_spreadS p0 p1 (0 : Int32) m0) fun m8 =>
  X4_reach_16 10000 (0 : Int32) (0 : Int32) m8
abbrev rmX4_reach : Room := { frames := 1, cells := 0, slots := 0, locals := 29 }
set_option maxRecDepth 100000 in
set_option maxHeartbeats 4000000 in
theorem w_X4_reach_43 {Γ : Ga} {b : Nat} {ad : Nat → Nat} {nt : Nat} {z : Nat → Nat} {k16 : Int32 → Int32 → Mem → Option (Int32 × Mem)} {r9 : Int32} {m9 : Mem} (X : Cx Γ b cX4_reach 5 RX4 (some .int) rmX4_reach) (hret : ∀ (pc : Nat) (lv : List (Nat × Value)), decode cX4_reach pc = .ok (.ireturn, 1) → narrow .int (.int r9) = .int r9 → Go Γ b (sg ad nt z) 0 0 pc lv [.int r9] m9) (hk16 : ∀ (v3 : Int32) (v4 : Int32) (m0 : Mem), k16 v3 v4 m0 = some (r9, m9) → Go Γ b (sg ad nt z) 0 0 16 [(0, .ref (ad 1)), (3, .int v3), (4, .int v4)] [] m0) (v3 : Int32) (v4 : Int32) (m0 : Mem) (hf : X4_reach_43 k16 v3 v4 m0 = some (r9, m9)) : Go Γ b (sg ad nt z) 0 0 43 [(0, .ref (ad 1)), (3, .int v3), (4, .int v4)] [] m0 := by
  refine g_iinc X 2 (v := v4 + (1 : Int32)) (lv' := [(4, .int (v4 + (1 : Int32))), (0, .ref (ad 1)), (3, .int v3)]) dX4_reach_43 rfl rfl (by decide) rfl ?_
  refine g_goto X (tgt := 16) dX4_reach_46 (by decide) ?_
  refine g_pick [1, 2, 0] (lv' := [(0, .ref (ad 1)), (3, .int v3), (4, .int (v4 + (1 : Int32)))]) rfl ?_
  exact hk16 v3 (v4 + (1 : Int32)) m0 hf
set_option maxRecDepth 100000 in
set_option maxHeartbeats 4000000 in
theorem w_X4_reach_16 {Γ : Ga} {b : Nat} {ad : Nat → Nat} {nt : Nat} {z : Nat → Nat} {r9 : Int32} {m9 : Mem} (X : Cx Γ b cX4_reach 5 RX4 (some .int) rmX4_reach) (hret : ∀ (pc : Nat) (lv : List (Nat × Value)), decode cX4_reach pc = .ok (.ireturn, 1) → narrow .int (.int r9) = .int r9 → Go Γ b (sg ad nt z) 0 0 pc lv [.int r9] m9) : ∀ (n : Nat) (v3 : Int32) (v4 : Int32) (m0 : Mem), X4_reach_16 n v3 v4 m0 = some (r9, m9) → Go Γ b (sg ad nt z) 0 0 16 [(0, .ref (ad 1)), (3, .int v3), (4, .int v4)] [] m0 := by
  intro n
  induction n with
  | zero =>
    intro v3 v4 m0 hf
    cases hf
  | succ n ih =>
    intro v3 v4 m0 hf
    refine g_iload X 2 dX4_reach_16 rfl ?_
    refine g_bipush X (v := 8) dX4_reach_18 (by decide) ?_
    refine g_icmp_ge X (tgt := 49) dX4_reach_20 (by decide) (fun c20 => ?_) (fun c20 => ?_)
    · have hf := it c20 hf
      refine g_iload_n X 1 dX4_reach_49 rfl rfl ?_
      obtain ⟨rfl, rfl⟩ := lf2 hf
      exact hret 50 _ dX4_reach_50 rfl
    · have hf := ie c20 hf
      refine g_aload_n X 0 dX4_reach_23 rfl rfl ?_
      refine g_getr X (x := ad 4) 1 3 2 dX4_reach_24 (sgN (by decide)) rfl (by decide) rfl iw_X4 (by decide) rfl q_fl_X4_18 rfl ?_
      refine g_iload X 2 dX4_reach_27 rfl ?_
      obtain ⟨h29, hf⟩ := grd hf
      refine g_iald X 4 (n := 8) dX4_reach_29 (sgN (by decide)) rfl rfl h29 ?_
      refine g_sipush X (v := 999) dX4_reach_30 (by decide) ?_
      refine g_icmp_eq X (tgt := 43) dX4_reach_33 (by decide) (fun c33 => ?_) (fun c33 => ?_)
      · have hf := it c33 hf
        exact w_X4_reach_43 X hret ih v3 v4 m0 hf
      · have hf := ie c33 hf
        refine g_iload_n X 1 dX4_reach_36 rfl rfl ?_
        refine g_iconst X (v := 1) dX4_reach_37 (by decide) ?_
        refine g_iload X 2 dX4_reach_38 rfl ?_
        refine g_ishl X dX4_reach_40 ?_
        refine g_ior X dX4_reach_41 ?_
        refine g_istore_n X (lv' := [(3, .int (v3 ||| ((1 : Int32) <<< (v4 &&& 31)))), (0, .ref (ad 1)), (4, .int v4)]) dX4_reach_42 rfl (by decide) rfl ?_
        refine g_pick [1, 0, 2] (lv' := [(0, .ref (ad 1)), (3, .int (v3 ||| ((1 : Int32) <<< (v4 &&& 31)))), (4, .int v4)]) rfl ?_
        exact w_X4_reach_43 X hret ih (v3 ||| ((1 : Int32) <<< (v4 &&& 31))) v4 m0 hf
set_option maxRecDepth 100000 in
set_option maxHeartbeats 4000000 in
theorem c_X4_reach {l : Launch} {G : GG} {b : Nat} {ad : Nat → Nat} {nt : Nat} {z : Nat → Nat} {p0 : Int32} {p1 : Int32} {m0 : Mem} {r9 : Int32} {m9 : Mem} (hf : X4_reach p0 p1 m0 = some (r9, m9)) : MtI l yX4_reach cX4_reach 5 (some .int) rmX4_reach G b (sg ad nt z) m0 [.ref (ad 1), .int p0, .int p1] (pEI r9 (sg ad nt z) m9) := by
  refine mtI_of (by decide) (Nat.le_of_ble_eq_true rfl) .int rfl (fun Γ hG X hnm hr => ?_)
  have hret : ∀ (pc : Nat) (lv : List (Nat × Value)), decode cX4_reach pc = .ok (.ireturn, 1) → narrow .int (.int r9) = .int r9 → Go Γ b (sg ad nt z) 0 0 pc lv [.int r9] m9 := fun pc lv d hn => hr pc lv _ _ _ d ⟨rfl, rfl, rfl⟩ hn
  show Go Γ b (sg ad nt z) 0 0 0 [(0, .ref (ad 1)), (1, .int p0), (2, .int p1)] [] m0
  refine g_aload_n X 0 dX4_reach_0 rfl rfl ?_
  refine g_iload_n X 1 dX4_reach_1 rfl rfl ?_
  refine g_iload_n X 2 dX4_reach_2 rfl rfl ?_
  refine g_aload_n X 0 dX4_reach_3 rfl rfl ?_
  refine g_getr X (x := ad 4) 1 3 2 dX4_reach_4 (sgN (by decide)) rfl (by decide) rfl iw_X4 (by decide) rfl q_fl_X4_18 rfl ?_
  refine g_iconst X (v := 0) dX4_reach_7 (by decide) ?_
  obtain ⟨m8, h8, hf⟩ := bv_i hf
  refine g_eVV X 1 3 [.int p0, .int p1, .ref (ad 4), .int (0 : Int32)] kV_X4_34 (c_X4_spreadS h8) dX4_reach_8 rfl rfl (sgN (by decide)) rfl (by decide) rfl rfl ⟨(Nat.le_of_ble_eq_true rfl), (Nat.le_of_ble_eq_true rfl)⟩ ⟨rfl, rfl⟩ ⟨(Nat.zero_le _), (Nat.zero_le _)⟩ (Nat.le_of_ble_eq_true rfl) ?_
  refine g_iconst X (v := 0) dX4_reach_11 (by decide) ?_
  refine g_istore_n X (lv' := [(3, .int (0 : Int32)), (0, .ref (ad 1)), (1, .int p0), (2, .int p1)]) dX4_reach_12 rfl (by decide) rfl ?_
  refine g_iconst X (v := 0) dX4_reach_13 (by decide) ?_
  refine g_istore X (lv' := [(4, .int (0 : Int32)), (3, .int (0 : Int32)), (0, .ref (ad 1)), (1, .int p0), (2, .int p1)]) dX4_reach_14 (by decide) rfl ?_
  refine g_pick [2, 1, 0] (lv' := [(0, .ref (ad 1)), (3, .int (0 : Int32)), (4, .int (0 : Int32))]) rfl ?_
  exact w_X4_reach_16 X hret 10000 (0 : Int32) (0 : Int32) m8 hf

def J7_fill_53178_5 (s : Nat) : Nat → Int32 → Int32 → Int32 → Mem → Option (Mem)
  | 0, _, _, _, _ => none
  | n + 1, v1, v2, v3, m0 =>
    if v3 ≤ v2 then
      some m0
    else
      if inn v2 40 then
      J7_fill_53178_5 s n v1 (v2 + (1 : Int32)) v3 (pI m0 (s + 1) v2.toNatClampNeg v1)
      else none
def J7_fill_53178 (s : Nat) (p1 : Int32) (m0 : Mem) : Option (Mem) :=
  J7_fill_53178_5 s 10000 p1 (0 : Int32) (40 : Int32) m0
abbrev rmJ7_fill_53178 : Room := { frames := 0, cells := 0, slots := 0, locals := 0 }
set_option maxRecDepth 100000 in
set_option maxHeartbeats 4000000 in
theorem w_J7_fill_53178_5 {Γ : Ga} {b : Nat} {ad : Nat → Nat} {nt : Nat} {z : Nat → Nat} {s : Nat} {m9 : Mem} (hs9 : isS s) (X : Cx Γ b cJ7_fill_53178 4 RJ7 (none) rmJ7_fill_53178) (hret : ∀ (pc : Nat) (lv : List (Nat × Value)), decode cJ7_fill_53178 pc = .ok (.return_, 1) → Go Γ b (sg ad nt z) 0 0 pc lv [] m9) : ∀ (n : Nat) (v1 : Int32) (v2 : Int32) (v3 : Int32) (m0 : Mem), J7_fill_53178_5 s n v1 v2 v3 m0 = some m9 → Go Γ b (sg ad nt z) 0 0 5 [(0, .ref (ad (s + 1))), (1, .int v1), (2, .int v2), (3, .int v3)] [] m0 := by
  intro n
  induction n with
  | zero =>
    intro v1 v2 v3 m0 hf
    cases hf
  | succ n ih =>
    intro v1 v2 v3 m0 hf
    refine g_iload_n X 2 dJ7_fill_53178_5 rfl rfl ?_
    refine g_iload_n X 3 dJ7_fill_53178_6 rfl rfl ?_
    refine g_icmp_ge X (tgt := 20) dJ7_fill_53178_7 (by decide) (fun c7 => ?_) (fun c7 => ?_)
    · have hf := it c7 hf
      obtain rfl := lf1 hf
      exact hret 20 _ dJ7_fill_53178_20
    · have hf := ie c7 hf
      refine g_aload_n X 0 dJ7_fill_53178_10 rfl rfl ?_
      refine g_iload_n X 2 dJ7_fill_53178_11 rfl rfl ?_
      refine g_iload_n X 1 dJ7_fill_53178_12 rfl rfl ?_
      obtain ⟨h13, hf⟩ := grd hf
      refine g_iast X (s + 1) (n := 40) dJ7_fill_53178_13 (S_lt1 hs9) (S_kd1 hs9) (S_ln1 hs9) h13 ?_
      refine g_iinc X 2 (v := v2 + (1 : Int32)) (lv' := [(2, .int (v2 + (1 : Int32))), (0, .ref (ad (s + 1))), (1, .int v1), (3, .int v3)]) dJ7_fill_53178_14 rfl rfl (by decide) rfl ?_
      refine g_goto X (tgt := 5) dJ7_fill_53178_17 (by decide) ?_
      refine g_pick [1, 2, 0, 3] (lv' := [(0, .ref (ad (s + 1))), (1, .int v1), (2, .int (v2 + (1 : Int32))), (3, .int v3)]) rfl ?_
      exact ih v1 (v2 + (1 : Int32)) v3 (pI m0 (s + 1) v2.toNatClampNeg v1) hf
set_option maxRecDepth 100000 in
set_option maxHeartbeats 4000000 in
theorem c_J7_fill_53178 {l : Launch} {G : GG} {b : Nat} {ad : Nat → Nat} {nt : Nat} {z : Nat → Nat} {s : Nat} {p1 : Int32} {m0 : Mem} {m9 : Mem} (hs9 : isS s) (hf : J7_fill_53178 s p1 m0 = some m9) : MtV l yJ7_fill_53178 cJ7_fill_53178 4 (none) rmJ7_fill_53178 G b (sg ad nt z) m0 [.ref (ad (s + 1)), .int p1] (pEV (sg ad nt z) m9) := by
  refine mtV_of (by decide) (Nat.le_of_ble_eq_true rfl) rfl (fun Γ hG X hnm hr => ?_)
  have hret : ∀ (pc : Nat) (lv : List (Nat × Value)), decode cJ7_fill_53178 pc = .ok (.return_, 1) → Go Γ b (sg ad nt z) 0 0 pc lv [] m9 := fun pc lv d => hr pc lv _ _ d ⟨rfl, rfl⟩
  show Go Γ b (sg ad nt z) 0 0 0 [(0, .ref (ad (s + 1))), (1, .int p1)] [] m0
  refine g_iconst X (v := 0) dJ7_fill_53178_0 (by decide) ?_
  refine g_istore_n X (lv' := [(2, .int (0 : Int32)), (0, .ref (ad (s + 1))), (1, .int p1)]) dJ7_fill_53178_1 rfl (by decide) rfl ?_
  refine g_aload_n X 1 dJ7_fill_53178_2 rfl rfl ?_
  refine g_alen X (s + 1) 10 (n := 40) dJ7_fill_53178_3 (S_lt1 hs9) (S_kd1 hs9) rfl (S_ln1 hs9) rfl ?_
  refine g_istore_n X (lv' := [(3, .int (40 : Int32)), (2, .int (0 : Int32)), (0, .ref (ad (s + 1))), (1, .int p1)]) dJ7_fill_53178_4 rfl (by decide) rfl ?_
  refine g_pick [2, 3, 1, 0] (lv' := [(0, .ref (ad (s + 1))), (1, .int p1), (2, .int (0 : Int32)), (3, .int (40 : Int32))]) rfl ?_
  exact w_J7_fill_53178_5 hs9 X hret 10000 p1 (0 : Int32) (40 : Int32) m0 hf

theorem kS_X6_22 : wcS RX6 22 yJ7_fill_53178 cJ7_fill_53178 4 (none) 2 := ⟨q_ml_X6_22, q_st_yJ7_fill_53178, q_in_J7, q_co_yJ7_fill_53178, by decide +kernel⟩

def X6_become (s : Nat) (p0 : Int32) (p1 : Int32) (m0 : Mem) : Option (Mem) :=
  bv (J7_fill_53178 s (0 : Int32) (pI (pI m0 s 0 p0) s 1 p1)) fun m15 =>
  some m15
abbrev rmX6_become : Room := { frames := 1, cells := 0, slots := 0, locals := 23 }

set_option maxRecDepth 100000 in
set_option maxHeartbeats 4000000 in
theorem c_X6_become {l : Launch} {G : GG} {b : Nat} {ad : Nat → Nat} {nt : Nat} {z : Nat → Nat} {s : Nat} {p0 : Int32} {p1 : Int32} {m0 : Mem} {m9 : Mem} (hs9 : isS s) (hf : X6_become s p0 p1 m0 = some m9) : MtV l yX6_become cX6_become 3 (none) rmX6_become G b (sg ad nt z) m0 [.ref (ad s), .int p0, .int p1] (pEV (sg ad nt z) m9) := by
  refine mtV_of (by decide) (Nat.le_of_ble_eq_true rfl) rfl (fun Γ hG X hnm hr => ?_)
  have hret : ∀ (pc : Nat) (lv : List (Nat × Value)), decode cX6_become pc = .ok (.return_, 1) → Go Γ b (sg ad nt z) 0 0 pc lv [] m9 := fun pc lv d => hr pc lv _ _ d ⟨rfl, rfl⟩
  show Go Γ b (sg ad nt z) 0 0 0 [(0, .ref (ad s)), (1, .int p0), (2, .int p1)] [] m0
  refine g_aload_n X 0 dX6_become_0 rfl rfl ?_
  refine g_iload_n X 1 dX6_become_1 rfl rfl ?_
  refine g_putI X (tyf := tyX6) s 5 0 dX6_become_2 (S_lt0 hs9) (S_kd0 hs9) (by decide) rfl iw_X6 (by decide) rfl q_fl_X6_9 tyX6_ok nmX6 rfl rfl rfl ?_
  refine g_aload_n X 0 dX6_become_5 rfl rfl ?_
  refine g_iload_n X 2 dX6_become_6 rfl rfl ?_
  refine g_putI X (tyf := tyX6) s 5 1 dX6_become_7 (S_lt0 hs9) (S_kd0 hs9) (by decide) rfl iw_X6 (by decide) rfl q_fl_X6_15 tyX6_ok nmX6 rfl rfl rfl ?_
  refine g_aload_n X 0 dX6_become_10 rfl rfl ?_
  refine g_getr X (x := ad (s + 1)) s 5 2 dX6_become_11 (S_lt0 hs9) (S_kd0 hs9) (by decide) rfl iw_X6 (by decide) rfl q_fl_X6_18 (S_r2 hs9) ?_
  refine g_iconst X (v := 0) dX6_become_14 (by decide) ?_
  obtain ⟨m15, h15, hf⟩ := bv_i hf
  refine g_eSV X [.ref (ad (s + 1)), .int (0 : Int32)] kS_X6_22 (c_J7_fill_53178 hs9 h15) dX6_become_15 rfl rfl ⟨(Nat.le_of_ble_eq_true rfl), (Nat.le_of_ble_eq_true rfl)⟩ ⟨rfl, rfl⟩ ⟨(Nat.zero_le _), (Nat.zero_le _)⟩ (Nat.le_of_ble_eq_true rfl) ?_
  obtain rfl := lf1 hf
  exact hret 18 _ dX6_become_18

def X6_isMissing (s : Nat) (m0 : Mem) : Option (Int32 × Mem) :=
  if (m0.1 s 0) = (-1 : Int32) then
    some ((1 : Int32), m0)
  else
    some ((0 : Int32), m0)
abbrev rmX6_isMissing : Room := { frames := 0, cells := 0, slots := 0, locals := 0 }

set_option maxRecDepth 100000 in
set_option maxHeartbeats 4000000 in
theorem c_X6_isMissing {l : Launch} {G : GG} {b : Nat} {ad : Nat → Nat} {nt : Nat} {z : Nat → Nat} {s : Nat} {m0 : Mem} {r9 : Int32} {m9 : Mem} (hs9 : isS s) (hf : X6_isMissing s m0 = some (r9, m9)) : MtI l yX6_isMissing cX6_isMissing 1 (some .boolean) rmX6_isMissing G b (sg ad nt z) m0 [.ref (ad s)] (pEI r9 (sg ad nt z) m9) := by
  refine mtI_of (by decide) (Nat.le_of_ble_eq_true rfl) .boolean rfl (fun Γ hG X hnm hr => ?_)
  have hret : ∀ (pc : Nat) (lv : List (Nat × Value)), decode cX6_isMissing pc = .ok (.ireturn, 1) → narrow .boolean (.int r9) = .int r9 → Go Γ b (sg ad nt z) 0 0 pc lv [.int r9] m9 := fun pc lv d hn => hr pc lv _ _ _ d ⟨rfl, rfl, rfl⟩ hn
  show Go Γ b (sg ad nt z) 0 0 0 [(0, .ref (ad s))] [] m0
  refine g_aload_n X 0 dX6_isMissing_0 rfl rfl ?_
  refine g_getI X s 5 0 dX6_isMissing_1 (S_lt0 hs9) (S_kd0 hs9) (by decide) rfl iw_X6 (by decide) rfl q_fl_X6_9 ?_
  refine g_iconst X (v := -1) dX6_isMissing_4 (by decide) ?_
  refine g_icmp_ne X (tgt := 12) dX6_isMissing_5 (by decide) (fun c5 => ?_) (fun c5 => ?_)
  · have hf := ie c5 hf
    refine g_iconst X (v := 0) dX6_isMissing_12 (by decide) ?_
    obtain ⟨rfl, rfl⟩ := lf2 hf
    exact hret 13 _ dX6_isMissing_13 rfl
  · have hf := it c5 hf
    refine g_iconst X (v := 1) dX6_isMissing_8 (by decide) ?_
    refine g_goto X (tgt := 13) dX6_isMissing_9 (by decide) ?_
    obtain ⟨rfl, rfl⟩ := lf2 hf
    exact hret 13 _ dX6_isMissing_13 rfl

def X6_has (s : Nat) (p0 : Int32) (p1 : Int32) (m0 : Mem) : Option (Int32 × Mem) :=
  if p0 < 0 then
    some ((0 : Int32), m0)
  else
    if p1 < 0 then
      some ((0 : Int32), m0)
    else
      if (m0.1 s 1) < p0 then
        some ((0 : Int32), m0)
      else
        if ((m0.1 s 1) - p0) < p1 then
          some ((0 : Int32), m0)
        else
          some ((1 : Int32), m0)
abbrev rmX6_has : Room := { frames := 0, cells := 0, slots := 0, locals := 0 }

set_option maxRecDepth 100000 in
set_option maxHeartbeats 4000000 in
theorem c_X6_has {l : Launch} {G : GG} {b : Nat} {ad : Nat → Nat} {nt : Nat} {z : Nat → Nat} {s : Nat} {p0 : Int32} {p1 : Int32} {m0 : Mem} {r9 : Int32} {m9 : Mem} (hs9 : isS s) (hf : X6_has s p0 p1 m0 = some (r9, m9)) : MtI l yX6_has cX6_has 3 (some .boolean) rmX6_has G b (sg ad nt z) m0 [.ref (ad s), .int p0, .int p1] (pEI r9 (sg ad nt z) m9) := by
  refine mtI_of (by decide) (Nat.le_of_ble_eq_true rfl) .boolean rfl (fun Γ hG X hnm hr => ?_)
  have hret : ∀ (pc : Nat) (lv : List (Nat × Value)), decode cX6_has pc = .ok (.ireturn, 1) → narrow .boolean (.int r9) = .int r9 → Go Γ b (sg ad nt z) 0 0 pc lv [.int r9] m9 := fun pc lv d hn => hr pc lv _ _ _ d ⟨rfl, rfl, rfl⟩ hn
  show Go Γ b (sg ad nt z) 0 0 0 [(0, .ref (ad s)), (1, .int p0), (2, .int p1)] [] m0
  refine g_iload_n X 1 dX6_has_0 rfl rfl ?_
  refine g_if_lt X (tgt := 30) dX6_has_1 (by decide) (fun c1 => ?_) (fun c1 => ?_)
  · have hf := it c1 hf
    refine g_iconst X (v := 0) dX6_has_30 (by decide) ?_
    obtain ⟨rfl, rfl⟩ := lf2 hf
    exact hret 31 _ dX6_has_31 rfl
  · have hf := ie c1 hf
    refine g_iload_n X 2 dX6_has_4 rfl rfl ?_
    refine g_if_lt X (tgt := 30) dX6_has_5 (by decide) (fun c5 => ?_) (fun c5 => ?_)
    · have hf := it c5 hf
      refine g_iconst X (v := 0) dX6_has_30 (by decide) ?_
      obtain ⟨rfl, rfl⟩ := lf2 hf
      exact hret 31 _ dX6_has_31 rfl
    · have hf := ie c5 hf
      refine g_iload_n X 1 dX6_has_8 rfl rfl ?_
      refine g_aload_n X 0 dX6_has_9 rfl rfl ?_
      refine g_getI X s 5 1 dX6_has_10 (S_lt0 hs9) (S_kd0 hs9) (by decide) rfl iw_X6 (by decide) rfl q_fl_X6_15 ?_
      refine g_icmp_gt X (tgt := 30) dX6_has_13 (by decide) (fun c13 => ?_) (fun c13 => ?_)
      · have hf := it c13 hf
        refine g_iconst X (v := 0) dX6_has_30 (by decide) ?_
        obtain ⟨rfl, rfl⟩ := lf2 hf
        exact hret 31 _ dX6_has_31 rfl
      · have hf := ie c13 hf
        refine g_iload_n X 2 dX6_has_16 rfl rfl ?_
        refine g_aload_n X 0 dX6_has_17 rfl rfl ?_
        refine g_getI X s 5 1 dX6_has_18 (S_lt0 hs9) (S_kd0 hs9) (by decide) rfl iw_X6 (by decide) rfl q_fl_X6_15 ?_
        refine g_iload_n X 1 dX6_has_21 rfl rfl ?_
        refine g_isub X dX6_has_22 ?_
        refine g_icmp_gt X (tgt := 30) dX6_has_23 (by decide) (fun c23 => ?_) (fun c23 => ?_)
        · have hf := it c23 hf
          refine g_iconst X (v := 0) dX6_has_30 (by decide) ?_
          obtain ⟨rfl, rfl⟩ := lf2 hf
          exact hret 31 _ dX6_has_31 rfl
        · have hf := ie c23 hf
          refine g_iconst X (v := 1) dX6_has_26 (by decide) ?_
          refine g_goto X (tgt := 31) dX6_has_27 (by decide) ?_
          obtain ⟨rfl, rfl⟩ := lf2 hf
          exact hret 31 _ dX6_has_31 rfl

def X6_put (s : Nat) (p0 : Int32) (p1 : Int32) (m0 : Mem) : Option (Mem) :=
  if (m0.1 s 0) = 0 then
    if inn p0 40 then
    some (pI m0 (s + 1) p0.toNatClampNeg p1.toInt8.toInt32)
    else none
  else
    if (m0.1 s 0) = (1 : Int32) then
      if inn p0 40 then
      some (pI m0 (s + 1) p0.toNatClampNeg p1.toInt16.toInt32)
      else none
    else
      if inn p0 40 then
      some (pI m0 (s + 1) p0.toNatClampNeg p1)
      else none
abbrev rmX6_put : Room := { frames := 0, cells := 0, slots := 0, locals := 0 }

set_option maxRecDepth 100000 in
set_option maxHeartbeats 4000000 in
theorem c_X6_put {l : Launch} {G : GG} {b : Nat} {ad : Nat → Nat} {nt : Nat} {z : Nat → Nat} {s : Nat} {p0 : Int32} {p1 : Int32} {m0 : Mem} {m9 : Mem} (hs9 : isS s) (hf : X6_put s p0 p1 m0 = some m9) : MtV l yX6_put cX6_put 3 (none) rmX6_put G b (sg ad nt z) m0 [.ref (ad s), .int p0, .int p1] (pEV (sg ad nt z) m9) := by
  refine mtV_of (by decide) (Nat.le_of_ble_eq_true rfl) rfl (fun Γ hG X hnm hr => ?_)
  have hret : ∀ (pc : Nat) (lv : List (Nat × Value)), decode cX6_put pc = .ok (.return_, 1) → Go Γ b (sg ad nt z) 0 0 pc lv [] m9 := fun pc lv d => hr pc lv _ _ d ⟨rfl, rfl⟩
  show Go Γ b (sg ad nt z) 0 0 0 [(0, .ref (ad s)), (1, .int p0), (2, .int p1)] [] m0
  refine g_aload_n X 0 dX6_put_0 rfl rfl ?_
  refine g_getr X (x := ad (s + 1)) s 5 2 dX6_put_1 (S_lt0 hs9) (S_kd0 hs9) (by decide) rfl iw_X6 (by decide) rfl q_fl_X6_18 (S_r2 hs9) ?_
  refine g_iload_n X 1 dX6_put_4 rfl rfl ?_
  refine g_aload_n X 0 dX6_put_5 rfl rfl ?_
  refine g_getI X s 5 0 dX6_put_6 (S_lt0 hs9) (S_kd0 hs9) (by decide) rfl iw_X6 (by decide) rfl q_fl_X6_9 ?_
  refine g_if_ne X (tgt := 17) dX6_put_9 (by decide) (fun c9 => ?_) (fun c9 => ?_)
  · have hf := ie c9 hf
    refine g_aload_n X 0 dX6_put_17 rfl rfl ?_
    refine g_getI X s 5 0 dX6_put_18 (S_lt0 hs9) (S_kd0 hs9) (by decide) rfl iw_X6 (by decide) rfl q_fl_X6_9 ?_
    refine g_iconst X (v := 1) dX6_put_21 (by decide) ?_
    refine g_icmp_ne X (tgt := 30) dX6_put_22 (by decide) (fun c22 => ?_) (fun c22 => ?_)
    · have hf := ie c22 hf
      refine g_iload_n X 2 dX6_put_30 rfl rfl ?_
      obtain ⟨h31, hf⟩ := grd hf
      refine g_iast X (s + 1) (n := 40) dX6_put_31 (S_lt1 hs9) (S_kd1 hs9) (S_ln1 hs9) h31 ?_
      obtain rfl := lf1 hf
      exact hret 32 _ dX6_put_32
    · have hf := it c22 hf
      refine g_iload_n X 2 dX6_put_25 rfl rfl ?_
      refine g_i2s X dX6_put_26 ?_
      refine g_goto X (tgt := 31) dX6_put_27 (by decide) ?_
      obtain ⟨h31, hf⟩ := grd hf
      refine g_iast X (s + 1) (n := 40) dX6_put_31 (S_lt1 hs9) (S_kd1 hs9) (S_ln1 hs9) h31 ?_
      obtain rfl := lf1 hf
      exact hret 32 _ dX6_put_32
  · have hf := it c9 hf
    refine g_iload_n X 2 dX6_put_12 rfl rfl ?_
    refine g_i2b X dX6_put_13 ?_
    refine g_goto X (tgt := 31) dX6_put_14 (by decide) ?_
    obtain ⟨h31, hf⟩ := grd hf
    refine g_iast X (s + 1) (n := 40) dX6_put_31 (S_lt1 hs9) (S_kd1 hs9) (S_ln1 hs9) h31 ?_
    obtain rfl := lf1 hf
    exact hret 32 _ dX6_put_32

def X9_isPerson (p0 : Int32) (m0 : Mem) : Option (Int32 × Mem) :=
  if p0 < 0 then
    some ((0 : Int32), m0)
  else
    if (m0.1 5 0) ≤ p0 then
      some ((0 : Int32), m0)
    else
      some ((1 : Int32), m0)
abbrev rmX9_isPerson : Room := { frames := 0, cells := 0, slots := 0, locals := 0 }

set_option maxRecDepth 100000 in
set_option maxHeartbeats 4000000 in
theorem c_X9_isPerson {l : Launch} {G : GG} {b : Nat} {ad : Nat → Nat} {nt : Nat} {z : Nat → Nat} {p0 : Int32} {m0 : Mem} {r9 : Int32} {m9 : Mem} (hf : X9_isPerson p0 m0 = some (r9, m9)) : MtI l yX9_isPerson cX9_isPerson 2 (some .boolean) rmX9_isPerson G b (sg ad nt z) m0 [.ref (ad 0), .int p0] (pEI r9 (sg ad nt z) m9) := by
  refine mtI_of (by decide) (Nat.le_of_ble_eq_true rfl) .boolean rfl (fun Γ hG X hnm hr => ?_)
  have hret : ∀ (pc : Nat) (lv : List (Nat × Value)), decode cX9_isPerson pc = .ok (.ireturn, 1) → narrow .boolean (.int r9) = .int r9 → Go Γ b (sg ad nt z) 0 0 pc lv [.int r9] m9 := fun pc lv d hn => hr pc lv _ _ _ d ⟨rfl, rfl, rfl⟩ hn
  show Go Γ b (sg ad nt z) 0 0 0 [(0, .ref (ad 0)), (1, .int p0)] [] m0
  refine g_iload_n X 1 dX9_isPerson_0 rfl rfl ?_
  refine g_if_lt X (tgt := 19) dX9_isPerson_1 (by decide) (fun c1 => ?_) (fun c1 => ?_)
  · have hf := it c1 hf
    refine g_iconst X (v := 0) dX9_isPerson_19 (by decide) ?_
    obtain ⟨rfl, rfl⟩ := lf2 hf
    exact hret 20 _ dX9_isPerson_20 rfl
  · have hf := ie c1 hf
    refine g_iload_n X 1 dX9_isPerson_4 rfl rfl ?_
    refine g_aload_n X 0 dX9_isPerson_5 rfl rfl ?_
    refine g_getr X (x := ad 5) 0 8 1 dX9_isPerson_6 (sgN (by decide)) rfl (by decide) rfl iw_X9 (by decide) rfl q_fl_X9_19 rfl ?_
    refine g_getI X 5 0 0 dX9_isPerson_9 (sgN (by decide)) rfl (by decide) rfl iw_X0 (by decide) rfl q_fl_X9_165 ?_
    refine g_icmp_ge X (tgt := 19) dX9_isPerson_12 (by decide) (fun c12 => ?_) (fun c12 => ?_)
    · have hf := it c12 hf
      refine g_iconst X (v := 0) dX9_isPerson_19 (by decide) ?_
      obtain ⟨rfl, rfl⟩ := lf2 hf
      exact hret 20 _ dX9_isPerson_20 rfl
    · have hf := ie c12 hf
      refine g_iconst X (v := 1) dX9_isPerson_15 (by decide) ?_
      refine g_goto X (tgt := 20) dX9_isPerson_16 (by decide) ?_
      obtain ⟨rfl, rfl⟩ := lf2 hf
      exact hret 20 _ dX9_isPerson_20 rfl

theorem kV_X9_94 : wcV RX9 94 RX0 yX0_row cX0_row 2 (some (.array .int)) 1 := ⟨q_ml_X9_94, q_im_yX0_row, q_se_yX0_row, q_in_X0, q_co_yX0_row, by decide +kernel⟩

theorem kV_X9_86 : wcV RX9 86 RX9 yX9_isPerson cX9_isPerson 2 (some .boolean) 1 := ⟨q_ml_X9_86, q_im_yX9_isPerson, q_se_yX9_isPerson, q_in_X9, q_co_yX9_isPerson, by decide +kernel⟩

def X9_set_30 (v1 : Int32) (v2 : Int32) (v3 : Int32) (m0 : Mem) : Option (Int32 × Mem) :=
  if v3 < 0 then
    some ((-2 : Int32), m0)
  else
    if inn v1 5 then
    if v3 ≤ (([999, 9, 7, 255, 255] : List Int32).getD v1.toNatClampNeg 0) then
      if v1 = 0 then
        some (m0.1 5 1, pI m0 5 1 v3)
      else
        bq (X0_row 5 v1 m0) fun r75 m75 =>
        oq r75
          (none)
          (fun w75 =>
          if inn v2 6 then
          if inn v2 6 then
          some (m75.1 w75 v2.toNatClampNeg, pI m75 w75 v2.toNatClampNeg v3)
          else none
          else none)
    else
      some ((-2 : Int32), m0)
    else none
def X9_set (p0 : Int32) (p1 : Int32) (p2 : Int32) (m0 : Mem) : Option (Int32 × Mem) :=
  if p0 < 0 then
    some ((-2 : Int32), m0)
  else
    if p0 < (5 : Int32) then
      if p0 = 0 then
        X9_set_30 p0 p1 p2 m0
      else
        bi (X9_isPerson p1 m0) fun r21 m21 =>
        if r21 = 0 then
          some ((-2 : Int32), m21)
        else
          X9_set_30 p0 p1 p2 m21
    else
      some ((-2 : Int32), m0)
abbrev rmX9_set : Room := { frames := 1, cells := 0, slots := 0, locals := 21 }
set_option maxRecDepth 100000 in
set_option maxHeartbeats 4000000 in
theorem w_X9_set_30 {Γ : Ga} {b : Nat} {ad : Nat → Nat} {nt : Nat} {z : Nat → Nat} {r9 : Int32} {m9 : Mem} (X : Cx Γ b cX9_set 6 RX9 (some .int) rmX9_set) (hret : ∀ (pc : Nat) (lv : List (Nat × Value)), decode cX9_set pc = .ok (.ireturn, 1) → narrow .int (.int r9) = .int r9 → Go Γ b (sg ad nt z) 0 0 pc lv [.int r9] m9) (v1 : Int32) (v2 : Int32) (v3 : Int32) (m0 : Mem) (hf : X9_set_30 v1 v2 v3 m0 = some (r9, m9)) : Go Γ b (sg ad nt z) 0 0 30 [(0, .ref (ad 0)), (1, .int v1), (2, .int v2), (3, .int v3)] [] m0 := by
  refine g_iload_n X 3 dX9_set_30 rfl rfl ?_
  refine g_if_lt X (tgt := 43) dX9_set_31 (by decide) (fun c31 => ?_) (fun c31 => ?_)
  · have hf := it c31 hf
    refine g_bipush X (v := -2) dX9_set_43 (by decide) ?_
    obtain ⟨rfl, rfl⟩ := lf2 hf
    exact hret 45 _ dX9_set_45 rfl
  · have hf := ie c31 hf
    refine g_iload_n X 3 dX9_set_34 rfl rfl ?_
    refine g_getsMS X dX9_set_35 q_fl_X9_82 ?_
    refine g_iload_n X 1 dX9_set_38 rfl rfl ?_
    obtain ⟨h39, hf⟩ := grd hf
    refine g_tldMS X dX9_set_39 h39 ?_
    refine g_icmp_le X (tgt := 46) dX9_set_40 (by decide) (fun c40 => ?_) (fun c40 => ?_)
    · have hf := it c40 hf
      refine g_iload_n X 1 dX9_set_46 rfl rfl ?_
      refine g_if_ne X (tgt := 70) dX9_set_47 (by decide) (fun c47 => ?_) (fun c47 => ?_)
      · have hf := ie c47 hf
        refine g_aload_n X 0 dX9_set_70 rfl rfl ?_
        refine g_getr X (x := ad 5) 0 8 1 dX9_set_71 (sgN (by decide)) rfl (by decide) rfl iw_X9 (by decide) rfl q_fl_X9_19 rfl ?_
        refine g_iload_n X 1 dX9_set_74 rfl rfl ?_
        obtain ⟨r75, m75, h75, hf⟩ := bq_i hf
        have ok75 := rowOk (by unfold isF; decide) h75
        cases r75 with
        | none =>
          cases hf
        | some w75 =>
          have fw75 : isA w75 := ok75 _ rfl
          refine g_eVQ X 5 0 [.int v1] kV_X9_94 (c_X0_row (by unfold isF; decide) h75) dX9_set_75 rfl rfl (sgN (by decide)) rfl (by decide) rfl rfl ⟨(Nat.le_of_ble_eq_true rfl), (Nat.le_of_ble_eq_true rfl)⟩ ⟨rfl, rfl⟩ ⟨(Nat.zero_le _), (Nat.zero_le _)⟩ (Nat.le_of_ble_eq_true rfl) ?_
          refine g_astore X (lv' := [(4, .ref (ad w75)), (0, .ref (ad 0)), (1, .int v1), (2, .int v2), (3, .int v3)]) dX9_set_78 (by decide) rfl ?_
          refine g_aload X 0 dX9_set_80 rfl ?_
          refine g_iload_n X 3 dX9_set_82 rfl rfl ?_
          obtain ⟨h83, hf⟩ := grd hf
          refine g_iald X w75 (n := 6) dX9_set_83 (A_lt0 fw75) (A_kd0 fw75) (A_ln0 fw75) h83 ?_
          refine g_istore X (lv' := [(5, .int (m75.1 w75 v2.toNatClampNeg)), (4, .ref (ad w75)), (0, .ref (ad 0)), (1, .int v1), (2, .int v2), (3, .int v3)]) dX9_set_84 (by decide) rfl ?_
          refine g_aload X 1 dX9_set_86 rfl ?_
          refine g_iload_n X 4 dX9_set_88 rfl rfl ?_
          refine g_iload_n X 5 dX9_set_89 rfl rfl ?_
          obtain ⟨h90, hf⟩ := grd hf
          refine g_iast X w75 (n := 6) dX9_set_90 (A_lt0 fw75) (A_kd0 fw75) (A_ln0 fw75) h90 ?_
          refine g_iload X 0 dX9_set_91 rfl ?_
          obtain ⟨rfl, rfl⟩ := lf2 hf
          exact hret 93 _ dX9_set_93 rfl
      · have hf := it c47 hf
        refine g_aload_n X 0 dX9_set_50 rfl rfl ?_
        refine g_getr X (x := ad 5) 0 8 1 dX9_set_51 (sgN (by decide)) rfl (by decide) rfl iw_X9 (by decide) rfl q_fl_X9_19 rfl ?_
        refine g_getI X 5 0 1 dX9_set_54 (sgN (by decide)) rfl (by decide) rfl iw_X0 (by decide) rfl q_fl_X9_90 ?_
        refine g_istore X (lv' := [(4, .int (m0.1 5 1)), (0, .ref (ad 0)), (1, .int v1), (2, .int v2), (3, .int v3)]) dX9_set_57 (by decide) rfl ?_
        refine g_aload_n X 1 dX9_set_59 rfl rfl ?_
        refine g_getr X (x := ad 5) 0 8 1 dX9_set_60 (sgN (by decide)) rfl (by decide) rfl iw_X9 (by decide) rfl q_fl_X9_19 rfl ?_
        refine g_iload_n X 4 dX9_set_63 rfl rfl ?_
        refine g_putI X (tyf := tyX0) 5 0 1 dX9_set_64 (sgN (by decide)) rfl (by decide) rfl iw_X0 (by decide) rfl q_fl_X9_90 tyX0_ok nmX0 rfl rfl rfl ?_
        refine g_iload X 0 dX9_set_67 rfl ?_
        obtain ⟨rfl, rfl⟩ := lf2 hf
        exact hret 69 _ dX9_set_69 rfl
    · have hf := ie c40 hf
      refine g_bipush X (v := -2) dX9_set_43 (by decide) ?_
      obtain ⟨rfl, rfl⟩ := lf2 hf
      exact hret 45 _ dX9_set_45 rfl
set_option maxRecDepth 100000 in
set_option maxHeartbeats 4000000 in
theorem c_X9_set {l : Launch} {G : GG} {b : Nat} {ad : Nat → Nat} {nt : Nat} {z : Nat → Nat} {p0 : Int32} {p1 : Int32} {p2 : Int32} {m0 : Mem} {r9 : Int32} {m9 : Mem} (hf : X9_set p0 p1 p2 m0 = some (r9, m9)) : MtI l yX9_set cX9_set 6 (some .int) rmX9_set G b (sg ad nt z) m0 [.ref (ad 0), .int p0, .int p1, .int p2] (pEI r9 (sg ad nt z) m9) := by
  refine mtI_of (by decide) (Nat.le_of_ble_eq_true rfl) .int rfl (fun Γ hG X hnm hr => ?_)
  have hret : ∀ (pc : Nat) (lv : List (Nat × Value)), decode cX9_set pc = .ok (.ireturn, 1) → narrow .int (.int r9) = .int r9 → Go Γ b (sg ad nt z) 0 0 pc lv [.int r9] m9 := fun pc lv d hn => hr pc lv _ _ _ d ⟨rfl, rfl, rfl⟩ hn
  show Go Γ b (sg ad nt z) 0 0 0 [(0, .ref (ad 0)), (1, .int p0), (2, .int p1), (3, .int p2)] [] m0
  refine g_iload_n X 1 dX9_set_0 rfl rfl ?_
  refine g_if_lt X (tgt := 12) dX9_set_1 (by decide) (fun c1 => ?_) (fun c1 => ?_)
  · have hf := it c1 hf
    refine g_bipush X (v := -2) dX9_set_12 (by decide) ?_
    obtain ⟨rfl, rfl⟩ := lf2 hf
    exact hret 14 _ dX9_set_14 rfl
  · have hf := ie c1 hf
    refine g_iload_n X 1 dX9_set_4 rfl rfl ?_
    refine g_getsMS X dX9_set_5 q_fl_X9_82 ?_
    refine g_tlenMS X (v := 5) dX9_set_8 (by decide) ?_
    refine g_icmp_lt X (tgt := 15) dX9_set_9 (by decide) (fun c9 => ?_) (fun c9 => ?_)
    · have hf := it c9 hf
      refine g_iload_n X 1 dX9_set_15 rfl rfl ?_
      refine g_if_eq X (tgt := 30) dX9_set_16 (by decide) (fun c16 => ?_) (fun c16 => ?_)
      · have hf := it c16 hf
        exact w_X9_set_30 X hret p0 p1 p2 m0 hf
      · have hf := ie c16 hf
        refine g_aload_n X 0 dX9_set_19 rfl rfl ?_
        refine g_iload_n X 2 dX9_set_20 rfl rfl ?_
        obtain ⟨r21, m21, h21, hf⟩ := bi_i hf
        refine g_eVI X 0 8 [.int p1] kV_X9_86 (c_X9_isPerson h21) dX9_set_21 rfl rfl (sgN (by decide)) rfl (by decide) rfl rfl ⟨(Nat.le_of_ble_eq_true rfl), (Nat.le_of_ble_eq_true rfl)⟩ ⟨rfl, rfl⟩ ⟨(Nat.zero_le _), (Nat.zero_le _)⟩ (Nat.le_of_ble_eq_true rfl) ?_
        refine g_if_ne X (tgt := 30) dX9_set_24 (by decide) (fun c24 => ?_) (fun c24 => ?_)
        · have hf := ie c24 hf
          exact w_X9_set_30 X hret p0 p1 p2 m21 hf
        · have hf := it c24 hf
          refine g_bipush X (v := -2) dX9_set_27 (by decide) ?_
          obtain ⟨rfl, rfl⟩ := lf2 hf
          exact hret 29 _ dX9_set_29 rfl
    · have hf := ie c9 hf
      refine g_bipush X (v := -2) dX9_set_12 (by decide) ?_
      obtain ⟨rfl, rfl⟩ := lf2 hf
      exact hret 14 _ dX9_set_14 rfl

def X9_isPlace (p0 : Int32) (m0 : Mem) : Option (Int32 × Mem) :=
  if p0 < 0 then
    some ((0 : Int32), m0)
  else
    if (8 : Int32) ≤ p0 then
      some ((0 : Int32), m0)
    else
      some ((1 : Int32), m0)
abbrev rmX9_isPlace : Room := { frames := 0, cells := 0, slots := 0, locals := 0 }

set_option maxRecDepth 100000 in
set_option maxHeartbeats 4000000 in
theorem c_X9_isPlace {l : Launch} {G : GG} {b : Nat} {ad : Nat → Nat} {nt : Nat} {z : Nat → Nat} {p0 : Int32} {m0 : Mem} {r9 : Int32} {m9 : Mem} (hf : X9_isPlace p0 m0 = some (r9, m9)) : MtI l yX9_isPlace cX9_isPlace 1 (some .boolean) rmX9_isPlace G b (sg ad nt z) m0 [.int p0] (pEI r9 (sg ad nt z) m9) := by
  refine mtI_of (by decide) (Nat.le_of_ble_eq_true rfl) .boolean rfl (fun Γ hG X hnm hr => ?_)
  have hret : ∀ (pc : Nat) (lv : List (Nat × Value)), decode cX9_isPlace pc = .ok (.ireturn, 1) → narrow .boolean (.int r9) = .int r9 → Go Γ b (sg ad nt z) 0 0 pc lv [.int r9] m9 := fun pc lv d hn => hr pc lv _ _ _ d ⟨rfl, rfl, rfl⟩ hn
  show Go Γ b (sg ad nt z) 0 0 0 [(0, .int p0)] [] m0
  refine g_iload_n X 0 dX9_isPlace_0 rfl rfl ?_
  refine g_if_lt X (tgt := 14) dX9_isPlace_1 (by decide) (fun c1 => ?_) (fun c1 => ?_)
  · have hf := it c1 hf
    refine g_iconst X (v := 0) dX9_isPlace_14 (by decide) ?_
    obtain ⟨rfl, rfl⟩ := lf2 hf
    exact hret 15 _ dX9_isPlace_15 rfl
  · have hf := ie c1 hf
    refine g_iload_n X 0 dX9_isPlace_4 rfl rfl ?_
    refine g_bipush X (v := 8) dX9_isPlace_5 (by decide) ?_
    refine g_icmp_ge X (tgt := 14) dX9_isPlace_7 (by decide) (fun c7 => ?_) (fun c7 => ?_)
    · have hf := it c7 hf
      refine g_iconst X (v := 0) dX9_isPlace_14 (by decide) ?_
      obtain ⟨rfl, rfl⟩ := lf2 hf
      exact hret 15 _ dX9_isPlace_15 rfl
    · have hf := ie c7 hf
      refine g_iconst X (v := 1) dX9_isPlace_10 (by decide) ?_
      refine g_goto X (tgt := 15) dX9_isPlace_11 (by decide) ?_
      obtain ⟨rfl, rfl⟩ := lf2 hf
      exact hret 15 _ dX9_isPlace_15 rfl

theorem kS_X9_98 : wcS RX9 98 yX9_isPlace cX9_isPlace 1 (some .boolean) 1 := ⟨q_ml_X9_98, q_st_yX9_isPlace, q_in_X9, q_co_yX9_isPlace, by decide +kernel⟩

theorem kV_X9_101 : wcV RX9 101 RX4 yX4_lay cX4_lay 5 (some .int) 3 := ⟨q_ml_X9_101, q_im_yX4_lay, q_se_yX4_lay, q_in_X4, q_co_yX4_lay, by decide +kernel⟩

def X9_road (p0 : Int32) (p1 : Int32) (p2 : Int32) (m0 : Mem) : Option (Int32 × Mem) :=
  bi (X9_isPlace p0 m0) fun r1 m1 =>
  if r1 = 0 then
    some ((-2 : Int32), m1)
  else
    bi (X9_isPlace p1 m1) fun r8 m8 =>
    if r8 = 0 then
      some ((-2 : Int32), m8)
    else
      if p0 = p1 then
        some ((-2 : Int32), m8)
      else
        if p2 < 0 then
          some ((-2 : Int32), m8)
        else
          if p2 ≤ (99 : Int32) then
            bi (X4_lay p0 p1 p2 m8) fun r42 m42 =>
            some (r42, m42)
          else
            some ((-2 : Int32), m8)
abbrev rmX9_road : Room := { frames := 1, cells := 0, slots := 0, locals := 24 }

set_option maxRecDepth 100000 in
set_option maxHeartbeats 4000000 in
theorem c_X9_road {l : Launch} {G : GG} {b : Nat} {ad : Nat → Nat} {nt : Nat} {z : Nat → Nat} {p0 : Int32} {p1 : Int32} {p2 : Int32} {m0 : Mem} {r9 : Int32} {m9 : Mem} (hf : X9_road p0 p1 p2 m0 = some (r9, m9)) : MtI l yX9_road cX9_road 4 (some .int) rmX9_road G b (sg ad nt z) m0 [.ref (ad 0), .int p0, .int p1, .int p2] (pEI r9 (sg ad nt z) m9) := by
  refine mtI_of (by decide) (Nat.le_of_ble_eq_true rfl) .int rfl (fun Γ hG X hnm hr => ?_)
  have hret : ∀ (pc : Nat) (lv : List (Nat × Value)), decode cX9_road pc = .ok (.ireturn, 1) → narrow .int (.int r9) = .int r9 → Go Γ b (sg ad nt z) 0 0 pc lv [.int r9] m9 := fun pc lv d hn => hr pc lv _ _ _ d ⟨rfl, rfl, rfl⟩ hn
  show Go Γ b (sg ad nt z) 0 0 0 [(0, .ref (ad 0)), (1, .int p0), (2, .int p1), (3, .int p2)] [] m0
  refine g_iload_n X 1 dX9_road_0 rfl rfl ?_
  obtain ⟨r1, m1, h1, hf⟩ := bi_i hf
  refine g_eSI X [.int p0] kS_X9_98 (c_X9_isPlace h1) dX9_road_1 rfl rfl ⟨(Nat.le_of_ble_eq_true rfl), (Nat.le_of_ble_eq_true rfl)⟩ ⟨rfl, rfl⟩ ⟨(Nat.zero_le _), (Nat.zero_le _)⟩ (Nat.le_of_ble_eq_true rfl) ?_
  refine g_if_eq X (tgt := 19) dX9_road_4 (by decide) (fun c4 => ?_) (fun c4 => ?_)
  · have hf := it c4 hf
    refine g_bipush X (v := -2) dX9_road_19 (by decide) ?_
    obtain ⟨rfl, rfl⟩ := lf2 hf
    exact hret 21 _ dX9_road_21 rfl
  · have hf := ie c4 hf
    refine g_iload_n X 2 dX9_road_7 rfl rfl ?_
    obtain ⟨r8, m8, h8, hf⟩ := bi_i hf
    refine g_eSI X [.int p1] kS_X9_98 (c_X9_isPlace h8) dX9_road_8 rfl rfl ⟨(Nat.le_of_ble_eq_true rfl), (Nat.le_of_ble_eq_true rfl)⟩ ⟨rfl, rfl⟩ ⟨(Nat.zero_le _), (Nat.zero_le _)⟩ (Nat.le_of_ble_eq_true rfl) ?_
    refine g_if_eq X (tgt := 19) dX9_road_11 (by decide) (fun c11 => ?_) (fun c11 => ?_)
    · have hf := it c11 hf
      refine g_bipush X (v := -2) dX9_road_19 (by decide) ?_
      obtain ⟨rfl, rfl⟩ := lf2 hf
      exact hret 21 _ dX9_road_21 rfl
    · have hf := ie c11 hf
      refine g_iload_n X 1 dX9_road_14 rfl rfl ?_
      refine g_iload_n X 2 dX9_road_15 rfl rfl ?_
      refine g_icmp_ne X (tgt := 22) dX9_road_16 (by decide) (fun c16 => ?_) (fun c16 => ?_)
      · have hf := ie c16 hf
        refine g_iload_n X 3 dX9_road_22 rfl rfl ?_
        refine g_if_lt X (tgt := 32) dX9_road_23 (by decide) (fun c23 => ?_) (fun c23 => ?_)
        · have hf := it c23 hf
          refine g_bipush X (v := -2) dX9_road_32 (by decide) ?_
          obtain ⟨rfl, rfl⟩ := lf2 hf
          exact hret 34 _ dX9_road_34 rfl
        · have hf := ie c23 hf
          refine g_iload_n X 3 dX9_road_26 rfl rfl ?_
          refine g_bipush X (v := 99) dX9_road_27 (by decide) ?_
          refine g_icmp_le X (tgt := 35) dX9_road_29 (by decide) (fun c29 => ?_) (fun c29 => ?_)
          · have hf := it c29 hf
            refine g_aload_n X 0 dX9_road_35 rfl rfl ?_
            refine g_getr X (x := ad 1) 0 8 0 dX9_road_36 (sgN (by decide)) rfl (by decide) rfl iw_X9 (by decide) rfl q_fl_X9_10 rfl ?_
            refine g_iload_n X 1 dX9_road_39 rfl rfl ?_
            refine g_iload_n X 2 dX9_road_40 rfl rfl ?_
            refine g_iload_n X 3 dX9_road_41 rfl rfl ?_
            obtain ⟨r42, m42, h42, hf⟩ := bi_i hf
            refine g_eVI X 1 3 [.int p0, .int p1, .int p2] kV_X9_101 (c_X4_lay h42) dX9_road_42 rfl rfl (sgN (by decide)) rfl (by decide) rfl rfl ⟨(Nat.le_of_ble_eq_true rfl), (Nat.le_of_ble_eq_true rfl)⟩ ⟨rfl, rfl⟩ ⟨(Nat.zero_le _), (Nat.zero_le _)⟩ (Nat.le_of_ble_eq_true rfl) ?_
            obtain ⟨rfl, rfl⟩ := lf2 hf
            exact hret 45 _ dX9_road_45 rfl
          · have hf := ie c29 hf
            refine g_bipush X (v := -2) dX9_road_32 (by decide) ?_
            obtain ⟨rfl, rfl⟩ := lf2 hf
            exact hret 34 _ dX9_road_34 rfl
      · have hf := it c16 hf
        refine g_bipush X (v := -2) dX9_road_19 (by decide) ?_
        obtain ⟨rfl, rfl⟩ := lf2 hf
        exact hret 21 _ dX9_road_21 rfl

theorem kS_X9_105 : wcS RX9 105 yX1_isKind cX1_isKind 1 (some .boolean) 1 := ⟨q_ml_X9_105, q_st_yX1_isKind, q_in_X1, q_co_yX1_isKind, by decide +kernel⟩

theorem kV_X9_110 : wcV RX9 110 RX0 yX0_add cX0_add 4 (some .int) 3 := ⟨q_ml_X9_110, q_im_yX0_add, q_se_yX0_add, q_in_X0, q_co_yX0_add, by decide +kernel⟩

def X9_person (p0 : Int32) (p1 : Int32) (p2 : Int32) (m0 : Mem) : Option (Int32 × Mem) :=
  bi (X1_isKind p0 m0) fun r1 m1 =>
  if r1 = 0 then
    some ((-2 : Int32), m1)
  else
    if p1 < 0 then
      some ((-2 : Int32), m1)
    else
      if p1 ≤ (9 : Int32) then
        if p2 < 0 then
          some ((-2 : Int32), m1)
        else
          if p2 ≤ (255 : Int32) then
            bi (X0_add 5 p0 p1 p2 m1) fun r41 m41 =>
            some (r41, m41)
          else
            some ((-2 : Int32), m1)
      else
        some ((-2 : Int32), m1)
abbrev rmX9_person : Room := { frames := 1, cells := 0, slots := 0, locals := 23 }

set_option maxRecDepth 100000 in
set_option maxHeartbeats 4000000 in
theorem c_X9_person {l : Launch} {G : GG} {b : Nat} {ad : Nat → Nat} {nt : Nat} {z : Nat → Nat} {p0 : Int32} {p1 : Int32} {p2 : Int32} {m0 : Mem} {r9 : Int32} {m9 : Mem} (hf : X9_person p0 p1 p2 m0 = some (r9, m9)) : MtI l yX9_person cX9_person 4 (some .int) rmX9_person G b (sg ad nt z) m0 [.ref (ad 0), .int p0, .int p1, .int p2] (pEI r9 (sg ad nt z) m9) := by
  refine mtI_of (by decide) (Nat.le_of_ble_eq_true rfl) .int rfl (fun Γ hG X hnm hr => ?_)
  have hret : ∀ (pc : Nat) (lv : List (Nat × Value)), decode cX9_person pc = .ok (.ireturn, 1) → narrow .int (.int r9) = .int r9 → Go Γ b (sg ad nt z) 0 0 pc lv [.int r9] m9 := fun pc lv d hn => hr pc lv _ _ _ d ⟨rfl, rfl, rfl⟩ hn
  show Go Γ b (sg ad nt z) 0 0 0 [(0, .ref (ad 0)), (1, .int p0), (2, .int p1), (3, .int p2)] [] m0
  refine g_iload_n X 1 dX9_person_0 rfl rfl ?_
  obtain ⟨r1, m1, h1, hf⟩ := bi_i hf
  refine g_eSI X [.int p0] kS_X9_105 (c_X1_isKind h1) dX9_person_1 rfl rfl ⟨(Nat.le_of_ble_eq_true rfl), (Nat.le_of_ble_eq_true rfl)⟩ ⟨rfl, rfl⟩ ⟨(Nat.zero_le _), (Nat.zero_le _)⟩ (Nat.le_of_ble_eq_true rfl) ?_
  refine g_if_eq X (tgt := 17) dX9_person_4 (by decide) (fun c4 => ?_) (fun c4 => ?_)
  · have hf := it c4 hf
    refine g_bipush X (v := -2) dX9_person_17 (by decide) ?_
    obtain ⟨rfl, rfl⟩ := lf2 hf
    exact hret 19 _ dX9_person_19 rfl
  · have hf := ie c4 hf
    refine g_iload_n X 2 dX9_person_7 rfl rfl ?_
    refine g_if_lt X (tgt := 17) dX9_person_8 (by decide) (fun c8 => ?_) (fun c8 => ?_)
    · have hf := it c8 hf
      refine g_bipush X (v := -2) dX9_person_17 (by decide) ?_
      obtain ⟨rfl, rfl⟩ := lf2 hf
      exact hret 19 _ dX9_person_19 rfl
    · have hf := ie c8 hf
      refine g_iload_n X 2 dX9_person_11 rfl rfl ?_
      refine g_bipush X (v := 9) dX9_person_12 (by decide) ?_
      refine g_icmp_le X (tgt := 20) dX9_person_14 (by decide) (fun c14 => ?_) (fun c14 => ?_)
      · have hf := it c14 hf
        refine g_iload_n X 3 dX9_person_20 rfl rfl ?_
        refine g_if_lt X (tgt := 31) dX9_person_21 (by decide) (fun c21 => ?_) (fun c21 => ?_)
        · have hf := it c21 hf
          refine g_bipush X (v := -2) dX9_person_31 (by decide) ?_
          obtain ⟨rfl, rfl⟩ := lf2 hf
          exact hret 33 _ dX9_person_33 rfl
        · have hf := ie c21 hf
          refine g_iload_n X 3 dX9_person_24 rfl rfl ?_
          refine g_sipush X (v := 255) dX9_person_25 (by decide) ?_
          refine g_icmp_le X (tgt := 34) dX9_person_28 (by decide) (fun c28 => ?_) (fun c28 => ?_)
          · have hf := it c28 hf
            refine g_aload_n X 0 dX9_person_34 rfl rfl ?_
            refine g_getr X (x := ad 5) 0 8 1 dX9_person_35 (sgN (by decide)) rfl (by decide) rfl iw_X9 (by decide) rfl q_fl_X9_19 rfl ?_
            refine g_iload_n X 1 dX9_person_38 rfl rfl ?_
            refine g_iload_n X 2 dX9_person_39 rfl rfl ?_
            refine g_iload_n X 3 dX9_person_40 rfl rfl ?_
            obtain ⟨r41, m41, h41, hf⟩ := bi_i hf
            refine g_eVI X 5 0 [.int p0, .int p1, .int p2] kV_X9_110 (c_X0_add (by unfold isF; decide) h41) dX9_person_41 rfl rfl (sgN (by decide)) rfl (by decide) rfl rfl ⟨(Nat.le_of_ble_eq_true rfl), (Nat.le_of_ble_eq_true rfl)⟩ ⟨rfl, rfl⟩ ⟨(Nat.zero_le _), (Nat.zero_le _)⟩ (Nat.le_of_ble_eq_true rfl) ?_
            obtain ⟨rfl, rfl⟩ := lf2 hf
            exact hret 44 _ dX9_person_44 rfl
          · have hf := ie c28 hf
            refine g_bipush X (v := -2) dX9_person_31 (by decide) ?_
            obtain ⟨rfl, rfl⟩ := lf2 hf
            exact hret 33 _ dX9_person_33 rfl
      · have hf := ie c14 hf
        refine g_bipush X (v := -2) dX9_person_17 (by decide) ?_
        obtain ⟨rfl, rfl⟩ := lf2 hf
        exact hret 19 _ dX9_person_19 rfl

theorem kV_X9_129 : wcV RX9 129 RX2 yX2_worth cX2_worth 4 (some .int) 3 := ⟨q_ml_X9_129, q_im_yX2_worth, q_se_yX2_worth, q_in_X2, q_co_yX2_worth, by decide +kernel⟩

theorem kV_X9_133 : wcV RX9 133 RX2 yX2_time cX2_time 4 (some .int) 3 := ⟨q_ml_X9_133, q_im_yX2_time, q_se_yX2_time, q_in_X2, q_co_yX2_time, by decide +kernel⟩

theorem kV_X9_136 : wcV RX9 136 RX2 yX2_takes cX2_takes 4 (some .boolean) 3 := ⟨q_ml_X9_136, q_im_yX2_takes, q_se_yX2_takes, q_in_X2, q_co_yX2_takes, by decide +kernel⟩

def X9_toldOfWay (nt : Nat) (z : Nat → Nat) (p0 : Int32) (p1 : Int32) (p2 : Int32) (m0 : Mem) : Option (Int32 × Mem) :=
  bi (X9_isPlace p2 m0) fun r1 m1 =>
  if r1 = 0 then
    some ((-2 : Int32), m1)
  else
    if p1 = (1 : Int32) then
      bi (X2_worth nt z 5 p0 p2 m1) fun r46 m46 =>
      some (r46, m46)
    else
      if p1 = (2 : Int32) then
        bi (X2_time nt z 5 p0 p2 m1) fun r60 m60 =>
        some (r60, m60)
      else
        if p1 = (3 : Int32) then
          bi (X2_takes nt z 5 p0 p2 m1) fun r74 m74 =>
          if r74 = 0 then
            some ((0 : Int32), m74)
          else
            some ((1 : Int32), m74)
        else
          some ((-2 : Int32), m1)
abbrev rmX9_toldOfWay : Room := { frames := 4, cells := 0, slots := 0, locals := 113 }

set_option maxRecDepth 100000 in
set_option maxHeartbeats 4000000 in
theorem c_X9_toldOfWay {l : Launch} {G : GG} {b : Nat} {ad : Nat → Nat} {nt : Nat} {z : Nat → Nat} {p0 : Int32} {p1 : Int32} {p2 : Int32} {m0 : Mem} {r9 : Int32} {m9 : Mem} (hf : X9_toldOfWay nt z p0 p1 p2 m0 = some (r9, m9)) : MtI l yX9_toldOfWay cX9_toldOfWay 4 (some .int) rmX9_toldOfWay G b (sg ad nt z) m0 [.ref (ad 0), .int p0, .int p1, .int p2] (pEI r9 (sg ad nt z) m9) := by
  refine mtI_of (by decide) (Nat.le_of_ble_eq_true rfl) .int rfl (fun Γ hG X hnm hr => ?_)
  have hret : ∀ (pc : Nat) (lv : List (Nat × Value)), decode cX9_toldOfWay pc = .ok (.ireturn, 1) → narrow .int (.int r9) = .int r9 → Go Γ b (sg ad nt z) 0 0 pc lv [.int r9] m9 := fun pc lv d hn => hr pc lv _ _ _ d ⟨rfl, rfl, rfl⟩ hn
  show Go Γ b (sg ad nt z) 0 0 0 [(0, .ref (ad 0)), (1, .int p0), (2, .int p1), (3, .int p2)] [] m0
  refine g_iload_n X 3 dX9_toldOfWay_0 rfl rfl ?_
  obtain ⟨r1, m1, h1, hf⟩ := bi_i hf
  refine g_eSI X [.int p2] kS_X9_98 (c_X9_isPlace h1) dX9_toldOfWay_1 rfl rfl ⟨(Nat.le_of_ble_eq_true rfl), (Nat.le_of_ble_eq_true rfl)⟩ ⟨rfl, rfl⟩ ⟨(Nat.zero_le _), (Nat.zero_le _)⟩ (Nat.le_of_ble_eq_true rfl) ?_
  refine g_if_ne X (tgt := 10) dX9_toldOfWay_4 (by decide) (fun c4 => ?_) (fun c4 => ?_)
  · have hf := ie c4 hf
    refine g_iload_n X 2 dX9_toldOfWay_10 rfl rfl ?_
    by_cases c11_0 : p1 = (1 : Int32)
    · have hf := it c11_0 hf
      refine g_tblIn X (tgt := 36) dX9_toldOfWay_11 (by rw [c11_0]; decide) (by rw [c11_0]; decide) (off := 25) (by rw [c11_0]; rfl) (by decide) ?_
      refine g_aload_n X 0 dX9_toldOfWay_36 rfl rfl ?_
      refine g_getr X (x := ad 50) 0 8 8 dX9_toldOfWay_37 (sgN (by decide)) rfl (by decide) rfl iw_X9 (by decide) rfl q_fl_X9_57 rfl ?_
      refine g_aload_n X 0 dX9_toldOfWay_40 rfl rfl ?_
      refine g_getr X (x := ad 5) 0 8 1 dX9_toldOfWay_41 (sgN (by decide)) rfl (by decide) rfl iw_X9 (by decide) rfl q_fl_X9_19 rfl ?_
      refine g_iload_n X 1 dX9_toldOfWay_44 rfl rfl ?_
      refine g_iload_n X 3 dX9_toldOfWay_45 rfl rfl ?_
      obtain ⟨r46, m46, h46, hf⟩ := bi_i hf
      refine g_eVI X 50 1 [.ref (ad 5), .int p0, .int p2] kV_X9_129 (c_X2_worth (by unfold isF; decide) h46) dX9_toldOfWay_46 rfl rfl (sgN (by decide)) rfl (by decide) rfl rfl ⟨(Nat.le_of_ble_eq_true rfl), (Nat.le_of_ble_eq_true rfl)⟩ ⟨rfl, rfl⟩ ⟨(Nat.zero_le _), (Nat.zero_le _)⟩ (Nat.le_of_ble_eq_true rfl) ?_
      obtain ⟨rfl, rfl⟩ := lf2 hf
      exact hret 49 _ dX9_toldOfWay_49 rfl
    · have hf := ie c11_0 hf
      by_cases c11_1 : p1 = (2 : Int32)
      · have hf := it c11_1 hf
        refine g_tblIn X (tgt := 50) dX9_toldOfWay_11 (by rw [c11_1]; decide) (by rw [c11_1]; decide) (off := 39) (by rw [c11_1]; rfl) (by decide) ?_
        refine g_aload_n X 0 dX9_toldOfWay_50 rfl rfl ?_
        refine g_getr X (x := ad 50) 0 8 8 dX9_toldOfWay_51 (sgN (by decide)) rfl (by decide) rfl iw_X9 (by decide) rfl q_fl_X9_57 rfl ?_
        refine g_aload_n X 0 dX9_toldOfWay_54 rfl rfl ?_
        refine g_getr X (x := ad 5) 0 8 1 dX9_toldOfWay_55 (sgN (by decide)) rfl (by decide) rfl iw_X9 (by decide) rfl q_fl_X9_19 rfl ?_
        refine g_iload_n X 1 dX9_toldOfWay_58 rfl rfl ?_
        refine g_iload_n X 3 dX9_toldOfWay_59 rfl rfl ?_
        obtain ⟨r60, m60, h60, hf⟩ := bi_i hf
        refine g_eVI X 50 1 [.ref (ad 5), .int p0, .int p2] kV_X9_133 (c_X2_time (by unfold isF; decide) h60) dX9_toldOfWay_60 rfl rfl (sgN (by decide)) rfl (by decide) rfl rfl ⟨(Nat.le_of_ble_eq_true rfl), (Nat.le_of_ble_eq_true rfl)⟩ ⟨rfl, rfl⟩ ⟨(Nat.zero_le _), (Nat.zero_le _)⟩ (Nat.le_of_ble_eq_true rfl) ?_
        obtain ⟨rfl, rfl⟩ := lf2 hf
        exact hret 63 _ dX9_toldOfWay_63 rfl
      · have hf := ie c11_1 hf
        by_cases c11_2 : p1 = (3 : Int32)
        · have hf := it c11_2 hf
          refine g_tblIn X (tgt := 64) dX9_toldOfWay_11 (by rw [c11_2]; decide) (by rw [c11_2]; decide) (off := 53) (by rw [c11_2]; rfl) (by decide) ?_
          refine g_aload_n X 0 dX9_toldOfWay_64 rfl rfl ?_
          refine g_getr X (x := ad 50) 0 8 8 dX9_toldOfWay_65 (sgN (by decide)) rfl (by decide) rfl iw_X9 (by decide) rfl q_fl_X9_57 rfl ?_
          refine g_aload_n X 0 dX9_toldOfWay_68 rfl rfl ?_
          refine g_getr X (x := ad 5) 0 8 1 dX9_toldOfWay_69 (sgN (by decide)) rfl (by decide) rfl iw_X9 (by decide) rfl q_fl_X9_19 rfl ?_
          refine g_iload_n X 1 dX9_toldOfWay_72 rfl rfl ?_
          refine g_iload_n X 3 dX9_toldOfWay_73 rfl rfl ?_
          obtain ⟨r74, m74, h74, hf⟩ := bi_i hf
          refine g_eVI X 50 1 [.ref (ad 5), .int p0, .int p2] kV_X9_136 (c_X2_takes (by unfold isF; decide) h74) dX9_toldOfWay_74 rfl rfl (sgN (by decide)) rfl (by decide) rfl rfl ⟨(Nat.le_of_ble_eq_true rfl), (Nat.le_of_ble_eq_true rfl)⟩ ⟨rfl, rfl⟩ ⟨(Nat.zero_le _), (Nat.zero_le _)⟩ (Nat.le_of_ble_eq_true rfl) ?_
          refine g_if_eq X (tgt := 84) dX9_toldOfWay_77 (by decide) (fun c77 => ?_) (fun c77 => ?_)
          · have hf := it c77 hf
            refine g_iconst X (v := 0) dX9_toldOfWay_84 (by decide) ?_
            obtain ⟨rfl, rfl⟩ := lf2 hf
            exact hret 85 _ dX9_toldOfWay_85 rfl
          · have hf := ie c77 hf
            refine g_iconst X (v := 1) dX9_toldOfWay_80 (by decide) ?_
            refine g_goto X (tgt := 85) dX9_toldOfWay_81 (by decide) ?_
            obtain ⟨rfl, rfl⟩ := lf2 hf
            exact hret 85 _ dX9_toldOfWay_85 rfl
        · have hf := ie c11_2 hf
          refine g_tblOut X (tgt := 86) dX9_toldOfWay_11 (by have g0 := lv_neT (a := 1) c11_0 rfl; have g1 := lv_neT (a := 2) c11_1 rfl; have g2 := lv_neT (a := 3) c11_2 rfl; omega) (by decide) ?_
          refine g_bipush X (v := -2) dX9_toldOfWay_86 (by decide) ?_
          obtain ⟨rfl, rfl⟩ := lf2 hf
          exact hret 88 _ dX9_toldOfWay_88 rfl
  · have hf := it c4 hf
    refine g_bipush X (v := -2) dX9_toldOfWay_7 (by decide) ?_
    obtain ⟨rfl, rfl⟩ := lf2 hf
    exact hret 9 _ dX9_toldOfWay_9 rfl

theorem kV_X9_126 : wcV RX9 126 RX9 yX9_toldOfWay cX9_toldOfWay 4 (some .int) 3 := ⟨q_ml_X9_126, q_im_yX9_toldOfWay, q_se_yX9_toldOfWay, q_in_X9, q_co_yX9_toldOfWay, by decide +kernel⟩

theorem kV_X9_122 : wcV RX9 122 RX4 yX4_reach cX4_reach 5 (some .int) 2 := ⟨q_ml_X9_122, q_im_yX4_reach, q_se_yX4_reach, q_in_X4, q_co_yX4_reach, by decide +kernel⟩

theorem kV_X9_112 : wcV RX9 112 RX0 yX0_hoard cX0_hoard 2 (some .int) 1 := ⟨q_ml_X9_112, q_im_yX0_hoard, q_se_yX0_hoard, q_in_X0, q_co_yX0_hoard, by decide +kernel⟩

def X9_told (nt : Nat) (z : Nat → Nat) (p0 : Int32) (p1 : Int32) (m0 : Mem) : Option (Int32 × Mem) :=
  if p1 = 0 then
    some (m0.1 5 1, m0)
  else
    bi (X9_isPerson p0 m0) fun r14 m14 =>
    if r14 = 0 then
      some ((-2 : Int32), m14)
    else
      if 0 ≤ p1 then
        if (6 : Int32) < p1 then
          if p1 = (7 : Int32) then
            bi (X0_hoard 5 p0 m14) fun r55 m55 =>
            some (r55, m55)
          else
            if p1 = (8 : Int32) then
              if inn p0 6 then
              if inn p0 6 then
              bi (X4_reach (m14.1 8 p0.toNatClampNeg) (m14.1 9 p0.toNatClampNeg) m14) fun r87 m87 =>
              some (r87, m87)
              else none
              else none
            else
              bi (X9_toldOfWay nt z p0 (p1 / (10 : Int32)) (p1 - p1 / (10 : Int32) * (10 : Int32)) m14) fun r101 m101 =>
              some (r101, m101)
        else
          bq (X0_row 5 p1 m14) fun r38 m38 =>
          oq r38
            (none)
            (fun w38 =>
            if inn p0 6 then
            some (m38.1 w38 p0.toNatClampNeg, m38)
            else none)
      else
        some ((-2 : Int32), m14)
abbrev rmX9_told : Room := { frames := 5, cells := 0, slots := 0, locals := 136 }

set_option maxRecDepth 100000 in
set_option maxHeartbeats 4000000 in
theorem c_X9_told {l : Launch} {G : GG} {b : Nat} {ad : Nat → Nat} {nt : Nat} {z : Nat → Nat} {p0 : Int32} {p1 : Int32} {m0 : Mem} {r9 : Int32} {m9 : Mem} (hf : X9_told nt z p0 p1 m0 = some (r9, m9)) : MtI l yX9_told cX9_told 3 (some .int) rmX9_told G b (sg ad nt z) m0 [.ref (ad 0), .int p0, .int p1] (pEI r9 (sg ad nt z) m9) := by
  refine mtI_of (by decide) (Nat.le_of_ble_eq_true rfl) .int rfl (fun Γ hG X hnm hr => ?_)
  have hret : ∀ (pc : Nat) (lv : List (Nat × Value)), decode cX9_told pc = .ok (.ireturn, 1) → narrow .int (.int r9) = .int r9 → Go Γ b (sg ad nt z) 0 0 pc lv [.int r9] m9 := fun pc lv d hn => hr pc lv _ _ _ d ⟨rfl, rfl, rfl⟩ hn
  show Go Γ b (sg ad nt z) 0 0 0 [(0, .ref (ad 0)), (1, .int p0), (2, .int p1)] [] m0
  refine g_iload_n X 2 dX9_told_0 rfl rfl ?_
  refine g_if_ne X (tgt := 12) dX9_told_1 (by decide) (fun c1 => ?_) (fun c1 => ?_)
  · have hf := ie c1 hf
    refine g_aload_n X 0 dX9_told_12 rfl rfl ?_
    refine g_iload_n X 1 dX9_told_13 rfl rfl ?_
    obtain ⟨r14, m14, h14, hf⟩ := bi_i hf
    refine g_eVI X 0 8 [.int p0] kV_X9_86 (c_X9_isPerson h14) dX9_told_14 rfl rfl (sgN (by decide)) rfl (by decide) rfl rfl ⟨(Nat.le_of_ble_eq_true rfl), (Nat.le_of_ble_eq_true rfl)⟩ ⟨rfl, rfl⟩ ⟨(Nat.zero_le _), (Nat.zero_le _)⟩ (Nat.le_of_ble_eq_true rfl) ?_
    refine g_if_eq X (tgt := 24) dX9_told_17 (by decide) (fun c17 => ?_) (fun c17 => ?_)
    · have hf := it c17 hf
      refine g_bipush X (v := -2) dX9_told_24 (by decide) ?_
      obtain ⟨rfl, rfl⟩ := lf2 hf
      exact hret 26 _ dX9_told_26 rfl
    · have hf := ie c17 hf
      refine g_iload_n X 2 dX9_told_20 rfl rfl ?_
      refine g_if_ge X (tgt := 27) dX9_told_21 (by decide) (fun c21 => ?_) (fun c21 => ?_)
      · have hf := it c21 hf
        refine g_iload_n X 2 dX9_told_27 rfl rfl ?_
        refine g_bipush X (v := 6) dX9_told_28 (by decide) ?_
        refine g_icmp_gt X (tgt := 44) dX9_told_30 (by decide) (fun c30 => ?_) (fun c30 => ?_)
        · have hf := it c30 hf
          refine g_iload_n X 2 dX9_told_44 rfl rfl ?_
          refine g_bipush X (v := 7) dX9_told_45 (by decide) ?_
          refine g_icmp_ne X (tgt := 59) dX9_told_47 (by decide) (fun c47 => ?_) (fun c47 => ?_)
          · have hf := ie c47 hf
            refine g_iload_n X 2 dX9_told_59 rfl rfl ?_
            refine g_bipush X (v := 8) dX9_told_60 (by decide) ?_
            refine g_icmp_ne X (tgt := 91) dX9_told_62 (by decide) (fun c62 => ?_) (fun c62 => ?_)
            · have hf := ie c62 hf
              refine g_aload_n X 0 dX9_told_91 rfl rfl ?_
              refine g_iload_n X 1 dX9_told_92 rfl rfl ?_
              refine g_iload_n X 2 dX9_told_93 rfl rfl ?_
              refine g_bipush X (v := 10) dX9_told_94 (by decide) ?_
              refine g_idiv X dX9_told_96 (by decide) ?_
              refine g_iload_n X 2 dX9_told_97 rfl rfl ?_
              refine g_bipush X (v := 10) dX9_told_98 (by decide) ?_
              refine g_irem X dX9_told_100 (by decide) ?_
              obtain ⟨r101, m101, h101, hf⟩ := bi_i hf
              refine g_eVI X 0 8 [.int p0, .int (p1 / (10 : Int32)), .int (p1 - p1 / (10 : Int32) * (10 : Int32))] kV_X9_126 (c_X9_toldOfWay h101) dX9_told_101 rfl rfl (sgN (by decide)) rfl (by decide) rfl rfl ⟨(Nat.le_of_ble_eq_true rfl), (Nat.le_of_ble_eq_true rfl)⟩ ⟨rfl, rfl⟩ ⟨(Nat.zero_le _), (Nat.zero_le _)⟩ (Nat.le_of_ble_eq_true rfl) ?_
              obtain ⟨rfl, rfl⟩ := lf2 hf
              exact hret 104 _ dX9_told_104 rfl
            · have hf := it c62 hf
              refine g_aload_n X 0 dX9_told_65 rfl rfl ?_
              refine g_getr X (x := ad 1) 0 8 0 dX9_told_66 (sgN (by decide)) rfl (by decide) rfl iw_X9 (by decide) rfl q_fl_X9_10 rfl ?_
              refine g_aload_n X 0 dX9_told_69 rfl rfl ?_
              refine g_getr X (x := ad 5) 0 8 1 dX9_told_70 (sgN (by decide)) rfl (by decide) rfl iw_X9 (by decide) rfl q_fl_X9_19 rfl ?_
              refine g_getr X (x := ad 8) 5 0 5 dX9_told_73 (sgN (by decide)) rfl (by decide) rfl iw_X0 (by decide) rfl q_fl_X9_116 rfl ?_
              refine g_iload_n X 1 dX9_told_76 rfl rfl ?_
              obtain ⟨h77, hf⟩ := grd hf
              refine g_iald X 8 (n := 6) dX9_told_77 (sgN (by decide)) rfl rfl h77 ?_
              refine g_aload_n X 0 dX9_told_78 rfl rfl ?_
              refine g_getr X (x := ad 5) 0 8 1 dX9_told_79 (sgN (by decide)) rfl (by decide) rfl iw_X9 (by decide) rfl q_fl_X9_19 rfl ?_
              refine g_getr X (x := ad 9) 5 0 6 dX9_told_82 (sgN (by decide)) rfl (by decide) rfl iw_X0 (by decide) rfl q_fl_X9_119 rfl ?_
              refine g_iload_n X 1 dX9_told_85 rfl rfl ?_
              obtain ⟨h86, hf⟩ := grd hf
              refine g_iald X 9 (n := 6) dX9_told_86 (sgN (by decide)) rfl rfl h86 ?_
              obtain ⟨r87, m87, h87, hf⟩ := bi_i hf
              refine g_eVI X 1 3 [.int (m14.1 8 p0.toNatClampNeg), .int (m14.1 9 p0.toNatClampNeg)] kV_X9_122 (c_X4_reach h87) dX9_told_87 rfl rfl (sgN (by decide)) rfl (by decide) rfl rfl ⟨(Nat.le_of_ble_eq_true rfl), (Nat.le_of_ble_eq_true rfl)⟩ ⟨rfl, rfl⟩ ⟨(Nat.zero_le _), (Nat.zero_le _)⟩ (Nat.le_of_ble_eq_true rfl) ?_
              obtain ⟨rfl, rfl⟩ := lf2 hf
              exact hret 90 _ dX9_told_90 rfl
          · have hf := it c47 hf
            refine g_aload_n X 0 dX9_told_50 rfl rfl ?_
            refine g_getr X (x := ad 5) 0 8 1 dX9_told_51 (sgN (by decide)) rfl (by decide) rfl iw_X9 (by decide) rfl q_fl_X9_19 rfl ?_
            refine g_iload_n X 1 dX9_told_54 rfl rfl ?_
            obtain ⟨r55, m55, h55, hf⟩ := bi_i hf
            refine g_eVI X 5 0 [.int p0] kV_X9_112 (c_X0_hoard (by unfold isF; decide) h55) dX9_told_55 rfl rfl (sgN (by decide)) rfl (by decide) rfl rfl ⟨(Nat.le_of_ble_eq_true rfl), (Nat.le_of_ble_eq_true rfl)⟩ ⟨rfl, rfl⟩ ⟨(Nat.zero_le _), (Nat.zero_le _)⟩ (Nat.le_of_ble_eq_true rfl) ?_
            obtain ⟨rfl, rfl⟩ := lf2 hf
            exact hret 58 _ dX9_told_58 rfl
        · have hf := ie c30 hf
          refine g_aload_n X 0 dX9_told_33 rfl rfl ?_
          refine g_getr X (x := ad 5) 0 8 1 dX9_told_34 (sgN (by decide)) rfl (by decide) rfl iw_X9 (by decide) rfl q_fl_X9_19 rfl ?_
          refine g_iload_n X 2 dX9_told_37 rfl rfl ?_
          obtain ⟨r38, m38, h38, hf⟩ := bq_i hf
          have ok38 := rowOk (by unfold isF; decide) h38
          cases r38 with
          | none =>
            cases hf
          | some w38 =>
            have fw38 : isA w38 := ok38 _ rfl
            refine g_eVQ X 5 0 [.int p1] kV_X9_94 (c_X0_row (by unfold isF; decide) h38) dX9_told_38 rfl rfl (sgN (by decide)) rfl (by decide) rfl rfl ⟨(Nat.le_of_ble_eq_true rfl), (Nat.le_of_ble_eq_true rfl)⟩ ⟨rfl, rfl⟩ ⟨(Nat.zero_le _), (Nat.zero_le _)⟩ (Nat.le_of_ble_eq_true rfl) ?_
            refine g_iload_n X 1 dX9_told_41 rfl rfl ?_
            obtain ⟨h42, hf⟩ := grd hf
            refine g_iald X w38 (n := 6) dX9_told_42 (A_lt0 fw38) (A_kd0 fw38) (A_ln0 fw38) h42 ?_
            obtain ⟨rfl, rfl⟩ := lf2 hf
            exact hret 43 _ dX9_told_43 rfl
      · have hf := ie c21 hf
        refine g_bipush X (v := -2) dX9_told_24 (by decide) ?_
        obtain ⟨rfl, rfl⟩ := lf2 hf
        exact hret 26 _ dX9_told_26 rfl
  · have hf := it c1 hf
    refine g_aload_n X 0 dX9_told_4 rfl rfl ?_
    refine g_getr X (x := ad 5) 0 8 1 dX9_told_5 (sgN (by decide)) rfl (by decide) rfl iw_X9 (by decide) rfl q_fl_X9_19 rfl ?_
    refine g_getI X 5 0 1 dX9_told_8 (sgN (by decide)) rfl (by decide) rfl iw_X0 (by decide) rfl q_fl_X9_90 ?_
    obtain ⟨rfl, rfl⟩ := lf2 hf
    exact hret 11 _ dX9_told_11 rfl

theorem kV_X9_140 : wcV RX9 140 RX3 yX3_add cX3_add 2 (some .int) 1 := ⟨q_ml_X9_140, q_im_yX3_add, q_se_yX3_add, q_in_X3, q_co_yX3_add, by decide +kernel⟩

def X9_feed (p0 : Int32) (m0 : Mem) : Option (Int32 × Mem) :=
  if p0 < 0 then
    some ((-2 : Int32), m0)
  else
    if p0 ≤ (255 : Int32) then
      bi (X3_add p0 m0) fun r19 m19 =>
      some (r19, m19)
    else
      some ((-2 : Int32), m0)
abbrev rmX9_feed : Room := { frames := 1, cells := 0, slots := 0, locals := 21 }

set_option maxRecDepth 100000 in
set_option maxHeartbeats 4000000 in
theorem c_X9_feed {l : Launch} {G : GG} {b : Nat} {ad : Nat → Nat} {nt : Nat} {z : Nat → Nat} {p0 : Int32} {m0 : Mem} {r9 : Int32} {m9 : Mem} (hf : X9_feed p0 m0 = some (r9, m9)) : MtI l yX9_feed cX9_feed 2 (some .int) rmX9_feed G b (sg ad nt z) m0 [.ref (ad 0), .int p0] (pEI r9 (sg ad nt z) m9) := by
  refine mtI_of (by decide) (Nat.le_of_ble_eq_true rfl) .int rfl (fun Γ hG X hnm hr => ?_)
  have hret : ∀ (pc : Nat) (lv : List (Nat × Value)), decode cX9_feed pc = .ok (.ireturn, 1) → narrow .int (.int r9) = .int r9 → Go Γ b (sg ad nt z) 0 0 pc lv [.int r9] m9 := fun pc lv d hn => hr pc lv _ _ _ d ⟨rfl, rfl, rfl⟩ hn
  show Go Γ b (sg ad nt z) 0 0 0 [(0, .ref (ad 0)), (1, .int p0)] [] m0
  refine g_iload_n X 1 dX9_feed_0 rfl rfl ?_
  refine g_if_lt X (tgt := 11) dX9_feed_1 (by decide) (fun c1 => ?_) (fun c1 => ?_)
  · have hf := it c1 hf
    refine g_bipush X (v := -2) dX9_feed_11 (by decide) ?_
    obtain ⟨rfl, rfl⟩ := lf2 hf
    exact hret 13 _ dX9_feed_13 rfl
  · have hf := ie c1 hf
    refine g_iload_n X 1 dX9_feed_4 rfl rfl ?_
    refine g_sipush X (v := 255) dX9_feed_5 (by decide) ?_
    refine g_icmp_le X (tgt := 14) dX9_feed_8 (by decide) (fun c8 => ?_) (fun c8 => ?_)
    · have hf := it c8 hf
      refine g_aload_n X 0 dX9_feed_14 rfl rfl ?_
      refine g_getr X (x := ad 30) 0 8 6 dX9_feed_15 (sgN (by decide)) rfl (by decide) rfl iw_X9 (by decide) rfl q_fl_X9_39 rfl ?_
      refine g_iload_n X 1 dX9_feed_18 rfl rfl ?_
      obtain ⟨r19, m19, h19, hf⟩ := bi_i hf
      refine g_eVI X 30 2 [.int p0] kV_X9_140 (c_X3_add rdSg h19) dX9_feed_19 rfl rfl (sgN (by decide)) rfl (by decide) rfl rfl ⟨(Nat.le_of_ble_eq_true rfl), (Nat.le_of_ble_eq_true rfl)⟩ ⟨rfl, rfl⟩ ⟨(Nat.zero_le _), (Nat.zero_le _)⟩ (Nat.le_of_ble_eq_true rfl) ?_
      obtain ⟨rfl, rfl⟩ := lf2 hf
      exact hret 22 _ dX9_feed_22 rfl
    · have hf := ie c8 hf
      refine g_bipush X (v := -2) dX9_feed_11 (by decide) ?_
      obtain ⟨rfl, rfl⟩ := lf2 hf
      exact hret 13 _ dX9_feed_13 rfl

def X9_force (p0 : Int32) (m0 : Mem) : Option (Int32 × Mem) :=
  if p0 < 0 then
    some ((-2 : Int32), m0)
  else
    if p0 < (m0.1 33 2) then
      some (m0.1 5 2, pI m0 5 2 p0)
    else
      some ((-2 : Int32), m0)
abbrev rmX9_force : Room := { frames := 0, cells := 0, slots := 0, locals := 0 }

set_option maxRecDepth 100000 in
set_option maxHeartbeats 4000000 in
theorem c_X9_force {l : Launch} {G : GG} {b : Nat} {ad : Nat → Nat} {nt : Nat} {z : Nat → Nat} {p0 : Int32} {m0 : Mem} {r9 : Int32} {m9 : Mem} (hf : X9_force p0 m0 = some (r9, m9)) : MtI l yX9_force cX9_force 3 (some .int) rmX9_force G b (sg ad nt z) m0 [.ref (ad 0), .int p0] (pEI r9 (sg ad nt z) m9) := by
  refine mtI_of (by decide) (Nat.le_of_ble_eq_true rfl) .int rfl (fun Γ hG X hnm hr => ?_)
  have hret : ∀ (pc : Nat) (lv : List (Nat × Value)), decode cX9_force pc = .ok (.ireturn, 1) → narrow .int (.int r9) = .int r9 → Go Γ b (sg ad nt z) 0 0 pc lv [.int r9] m9 := fun pc lv d hn => hr pc lv _ _ _ d ⟨rfl, rfl, rfl⟩ hn
  show Go Γ b (sg ad nt z) 0 0 0 [(0, .ref (ad 0)), (1, .int p0)] [] m0
  refine g_iload_n X 1 dX9_force_0 rfl rfl ?_
  refine g_if_lt X (tgt := 15) dX9_force_1 (by decide) (fun c1 => ?_) (fun c1 => ?_)
  · have hf := it c1 hf
    refine g_bipush X (v := -2) dX9_force_15 (by decide) ?_
    obtain ⟨rfl, rfl⟩ := lf2 hf
    exact hret 17 _ dX9_force_17 rfl
  · have hf := ie c1 hf
    refine g_iload_n X 1 dX9_force_4 rfl rfl ?_
    refine g_aload_n X 0 dX9_force_5 rfl rfl ?_
    refine g_getr X (x := ad 33) 0 8 7 dX9_force_6 (sgN (by decide)) rfl (by decide) rfl iw_X9 (by decide) rfl q_fl_X9_48 rfl ?_
    refine g_getI X 33 4 2 dX9_force_9 (sgN (by decide)) rfl (by decide) rfl iw_X5 (by decide) rfl q_fl_X9_142 ?_
    refine g_icmp_lt X (tgt := 18) dX9_force_12 (by decide) (fun c12 => ?_) (fun c12 => ?_)
    · have hf := it c12 hf
      refine g_aload_n X 0 dX9_force_18 rfl rfl ?_
      refine g_getr X (x := ad 5) 0 8 1 dX9_force_19 (sgN (by decide)) rfl (by decide) rfl iw_X9 (by decide) rfl q_fl_X9_19 rfl ?_
      refine g_getI X 5 0 2 dX9_force_22 (sgN (by decide)) rfl (by decide) rfl iw_X0 (by decide) rfl q_fl_X9_148 ?_
      refine g_istore_n X (lv' := [(2, .int (m0.1 5 2)), (0, .ref (ad 0)), (1, .int p0)]) dX9_force_25 rfl (by decide) rfl ?_
      refine g_aload_n X 1 dX9_force_26 rfl rfl ?_
      refine g_getr X (x := ad 5) 0 8 1 dX9_force_27 (sgN (by decide)) rfl (by decide) rfl iw_X9 (by decide) rfl q_fl_X9_19 rfl ?_
      refine g_iload_n X 2 dX9_force_30 rfl rfl ?_
      refine g_putI X (tyf := tyX0) 5 0 2 dX9_force_31 (sgN (by decide)) rfl (by decide) rfl iw_X0 (by decide) rfl q_fl_X9_148 tyX0_ok nmX0 rfl rfl rfl ?_
      refine g_iload_n X 0 dX9_force_34 rfl rfl ?_
      obtain ⟨rfl, rfl⟩ := lf2 hf
      exact hret 35 _ dX9_force_35 rfl
    · have hf := ie c12 hf
      refine g_bipush X (v := -2) dX9_force_15 (by decide) ?_
      obtain ⟨rfl, rfl⟩ := lf2 hf
      exact hret 17 _ dX9_force_17 rfl

theorem kV_X9_151 : wcV RX9 151 RX2 yX2_payment cX2_payment 10 (some .int) 4 := ⟨q_ml_X9_151, q_im_yX2_payment, q_se_yX2_payment, q_in_X2, q_co_yX2_payment, by decide +kernel⟩

def X9_pays (nt : Nat) (z : Nat → Nat) (p0 : Int32) (p1 : Int32) (p2 : Int32) (m0 : Mem) : Option (Int32 × Mem) :=
  bi (X9_isPerson p0 m0) fun r2 m2 =>
  if r2 = 0 then
    some ((-2 : Int32), m2)
  else
    bi (X9_isPerson p1 m2) fun r10 m10 =>
    if r10 = 0 then
      some ((-2 : Int32), m10)
    else
      if p0 = p1 then
        some ((-2 : Int32), m10)
      else
        bi (X9_isPlace p2 m10) fun r22 m22 =>
        if r22 = 0 then
          some ((-2 : Int32), m22)
        else
          bi (X2_payment nt z 5 p0 p1 p2 m22) fun r42 m42 =>
          some (r42, m42)
abbrev rmX9_pays : Room := { frames := 5, cells := 0, slots := 0, locals := 142 }

set_option maxRecDepth 100000 in
set_option maxHeartbeats 4000000 in
theorem c_X9_pays {l : Launch} {G : GG} {b : Nat} {ad : Nat → Nat} {nt : Nat} {z : Nat → Nat} {p0 : Int32} {p1 : Int32} {p2 : Int32} {m0 : Mem} {r9 : Int32} {m9 : Mem} (hf : X9_pays nt z p0 p1 p2 m0 = some (r9, m9)) : MtI l yX9_pays cX9_pays 4 (some .int) rmX9_pays G b (sg ad nt z) m0 [.ref (ad 0), .int p0, .int p1, .int p2] (pEI r9 (sg ad nt z) m9) := by
  refine mtI_of (by decide) (Nat.le_of_ble_eq_true rfl) .int rfl (fun Γ hG X hnm hr => ?_)
  have hret : ∀ (pc : Nat) (lv : List (Nat × Value)), decode cX9_pays pc = .ok (.ireturn, 1) → narrow .int (.int r9) = .int r9 → Go Γ b (sg ad nt z) 0 0 pc lv [.int r9] m9 := fun pc lv d hn => hr pc lv _ _ _ d ⟨rfl, rfl, rfl⟩ hn
  show Go Γ b (sg ad nt z) 0 0 0 [(0, .ref (ad 0)), (1, .int p0), (2, .int p1), (3, .int p2)] [] m0
  refine g_aload_n X 0 dX9_pays_0 rfl rfl ?_
  refine g_iload_n X 1 dX9_pays_1 rfl rfl ?_
  obtain ⟨r2, m2, h2, hf⟩ := bi_i hf
  refine g_eVI X 0 8 [.int p0] kV_X9_86 (c_X9_isPerson h2) dX9_pays_2 rfl rfl (sgN (by decide)) rfl (by decide) rfl rfl ⟨(Nat.le_of_ble_eq_true rfl), (Nat.le_of_ble_eq_true rfl)⟩ ⟨rfl, rfl⟩ ⟨(Nat.zero_le _), (Nat.zero_le _)⟩ (Nat.le_of_ble_eq_true rfl) ?_
  refine g_if_eq X (tgt := 28) dX9_pays_5 (by decide) (fun c5 => ?_) (fun c5 => ?_)
  · have hf := it c5 hf
    refine g_bipush X (v := -2) dX9_pays_28 (by decide) ?_
    obtain ⟨rfl, rfl⟩ := lf2 hf
    exact hret 30 _ dX9_pays_30 rfl
  · have hf := ie c5 hf
    refine g_aload_n X 0 dX9_pays_8 rfl rfl ?_
    refine g_iload_n X 2 dX9_pays_9 rfl rfl ?_
    obtain ⟨r10, m10, h10, hf⟩ := bi_i hf
    refine g_eVI X 0 8 [.int p1] kV_X9_86 (c_X9_isPerson h10) dX9_pays_10 rfl rfl (sgN (by decide)) rfl (by decide) rfl rfl ⟨(Nat.le_of_ble_eq_true rfl), (Nat.le_of_ble_eq_true rfl)⟩ ⟨rfl, rfl⟩ ⟨(Nat.zero_le _), (Nat.zero_le _)⟩ (Nat.le_of_ble_eq_true rfl) ?_
    refine g_if_eq X (tgt := 28) dX9_pays_13 (by decide) (fun c13 => ?_) (fun c13 => ?_)
    · have hf := it c13 hf
      refine g_bipush X (v := -2) dX9_pays_28 (by decide) ?_
      obtain ⟨rfl, rfl⟩ := lf2 hf
      exact hret 30 _ dX9_pays_30 rfl
    · have hf := ie c13 hf
      refine g_iload_n X 1 dX9_pays_16 rfl rfl ?_
      refine g_iload_n X 2 dX9_pays_17 rfl rfl ?_
      refine g_icmp_eq X (tgt := 28) dX9_pays_18 (by decide) (fun c18 => ?_) (fun c18 => ?_)
      · have hf := it c18 hf
        refine g_bipush X (v := -2) dX9_pays_28 (by decide) ?_
        obtain ⟨rfl, rfl⟩ := lf2 hf
        exact hret 30 _ dX9_pays_30 rfl
      · have hf := ie c18 hf
        refine g_iload_n X 3 dX9_pays_21 rfl rfl ?_
        obtain ⟨r22, m22, h22, hf⟩ := bi_i hf
        refine g_eSI X [.int p2] kS_X9_98 (c_X9_isPlace h22) dX9_pays_22 rfl rfl ⟨(Nat.le_of_ble_eq_true rfl), (Nat.le_of_ble_eq_true rfl)⟩ ⟨rfl, rfl⟩ ⟨(Nat.zero_le _), (Nat.zero_le _)⟩ (Nat.le_of_ble_eq_true rfl) ?_
        refine g_if_ne X (tgt := 31) dX9_pays_25 (by decide) (fun c25 => ?_) (fun c25 => ?_)
        · have hf := ie c25 hf
          refine g_aload_n X 0 dX9_pays_31 rfl rfl ?_
          refine g_getr X (x := ad 50) 0 8 8 dX9_pays_32 (sgN (by decide)) rfl (by decide) rfl iw_X9 (by decide) rfl q_fl_X9_57 rfl ?_
          refine g_aload_n X 0 dX9_pays_35 rfl rfl ?_
          refine g_getr X (x := ad 5) 0 8 1 dX9_pays_36 (sgN (by decide)) rfl (by decide) rfl iw_X9 (by decide) rfl q_fl_X9_19 rfl ?_
          refine g_iload_n X 1 dX9_pays_39 rfl rfl ?_
          refine g_iload_n X 2 dX9_pays_40 rfl rfl ?_
          refine g_iload_n X 3 dX9_pays_41 rfl rfl ?_
          obtain ⟨r42, m42, h42, hf⟩ := bi_i hf
          refine g_eVI X 50 1 [.ref (ad 5), .int p0, .int p1, .int p2] kV_X9_151 (c_X2_payment (by unfold isF; decide) h42) dX9_pays_42 rfl rfl (sgN (by decide)) rfl (by decide) rfl rfl ⟨(Nat.le_of_ble_eq_true rfl), (Nat.le_of_ble_eq_true rfl)⟩ ⟨rfl, rfl⟩ ⟨(Nat.zero_le _), (Nat.zero_le _)⟩ (Nat.le_of_ble_eq_true rfl) ?_
          obtain ⟨rfl, rfl⟩ := lf2 hf
          exact hret 45 _ dX9_pays_45 rfl
        · have hf := it c25 hf
          refine g_bipush X (v := -2) dX9_pays_28 (by decide) ?_
          obtain ⟨rfl, rfl⟩ := lf2 hf
          exact hret 30 _ dX9_pays_30 rfl

theorem kV_X9_155 : wcV RX9 155 RX9 yX9_pays cX9_pays 4 (some .int) 3 := ⟨q_ml_X9_155, q_im_yX9_pays, q_se_yX9_pays, q_in_X9, q_co_yX9_pays, by decide +kernel⟩

theorem kV_X9_158 : wcV RX9 158 RX2 yX2_deal cX2_deal 9 (none) 5 := ⟨q_ml_X9_158, q_im_yX2_deal, q_se_yX2_deal, q_in_X2, q_co_yX2_deal, by decide +kernel⟩

def X9_trade (nt : Nat) (z : Nat → Nat) (p0 : Int32) (p1 : Int32) (p2 : Int32) (m0 : Mem) : Option (Int32 × Mem) :=
  bi (X9_pays nt z p0 p1 p2 m0) fun r4 m4 =>
  if r4 = (-2 : Int32) then
    some ((-2 : Int32), m4)
  else
    if r4 = (-1 : Int32) then
      some ((-3 : Int32), m4)
    else
      bv (X2_deal nt z 5 p0 p1 p2 r4 m4) fun m41 =>
      some (r4, m41)
abbrev rmX9_trade : Room := { frames := 6, cells := 0, slots := 0, locals := 165 }

set_option maxRecDepth 100000 in
set_option maxHeartbeats 4000000 in
theorem c_X9_trade {l : Launch} {G : GG} {b : Nat} {ad : Nat → Nat} {nt : Nat} {z : Nat → Nat} {p0 : Int32} {p1 : Int32} {p2 : Int32} {m0 : Mem} {r9 : Int32} {m9 : Mem} (hf : X9_trade nt z p0 p1 p2 m0 = some (r9, m9)) : MtI l yX9_trade cX9_trade 5 (some .int) rmX9_trade G b (sg ad nt z) m0 [.ref (ad 0), .int p0, .int p1, .int p2] (pEI r9 (sg ad nt z) m9) := by
  refine mtI_of (by decide) (Nat.le_of_ble_eq_true rfl) .int rfl (fun Γ hG X hnm hr => ?_)
  have hret : ∀ (pc : Nat) (lv : List (Nat × Value)), decode cX9_trade pc = .ok (.ireturn, 1) → narrow .int (.int r9) = .int r9 → Go Γ b (sg ad nt z) 0 0 pc lv [.int r9] m9 := fun pc lv d hn => hr pc lv _ _ _ d ⟨rfl, rfl, rfl⟩ hn
  show Go Γ b (sg ad nt z) 0 0 0 [(0, .ref (ad 0)), (1, .int p0), (2, .int p1), (3, .int p2)] [] m0
  refine g_aload_n X 0 dX9_trade_0 rfl rfl ?_
  refine g_iload_n X 1 dX9_trade_1 rfl rfl ?_
  refine g_iload_n X 2 dX9_trade_2 rfl rfl ?_
  refine g_iload_n X 3 dX9_trade_3 rfl rfl ?_
  obtain ⟨r4, m4, h4, hf⟩ := bi_i hf
  refine g_eVI X 0 8 [.int p0, .int p1, .int p2] kV_X9_155 (c_X9_pays h4) dX9_trade_4 rfl rfl (sgN (by decide)) rfl (by decide) rfl rfl ⟨(Nat.le_of_ble_eq_true rfl), (Nat.le_of_ble_eq_true rfl)⟩ ⟨rfl, rfl⟩ ⟨(Nat.zero_le _), (Nat.zero_le _)⟩ (Nat.le_of_ble_eq_true rfl) ?_
  refine g_istore X (lv' := [(4, .int r4), (0, .ref (ad 0)), (1, .int p0), (2, .int p1), (3, .int p2)]) dX9_trade_7 (by decide) rfl ?_
  refine g_iload X 0 dX9_trade_9 rfl ?_
  refine g_bipush X (v := -2) dX9_trade_11 (by decide) ?_
  refine g_icmp_ne X (tgt := 19) dX9_trade_13 (by decide) (fun c13 => ?_) (fun c13 => ?_)
  · have hf := ie c13 hf
    refine g_iload X 0 dX9_trade_19 rfl ?_
    refine g_iconst X (v := -1) dX9_trade_21 (by decide) ?_
    refine g_icmp_ne X (tgt := 28) dX9_trade_22 (by decide) (fun c22 => ?_) (fun c22 => ?_)
    · have hf := ie c22 hf
      refine g_aload_n X 1 dX9_trade_28 rfl rfl ?_
      refine g_getr X (x := ad 50) 0 8 8 dX9_trade_29 (sgN (by decide)) rfl (by decide) rfl iw_X9 (by decide) rfl q_fl_X9_57 rfl ?_
      refine g_aload_n X 1 dX9_trade_32 rfl rfl ?_
      refine g_getr X (x := ad 5) 0 8 1 dX9_trade_33 (sgN (by decide)) rfl (by decide) rfl iw_X9 (by decide) rfl q_fl_X9_19 rfl ?_
      refine g_iload_n X 2 dX9_trade_36 rfl rfl ?_
      refine g_iload_n X 3 dX9_trade_37 rfl rfl ?_
      refine g_iload_n X 4 dX9_trade_38 rfl rfl ?_
      refine g_iload X 0 dX9_trade_39 rfl ?_
      obtain ⟨m41, h41, hf⟩ := bv_i hf
      refine g_eVV X 50 1 [.ref (ad 5), .int p0, .int p1, .int p2, .int r4] kV_X9_158 (c_X2_deal (by unfold isF; decide) h41) dX9_trade_41 rfl rfl (sgN (by decide)) rfl (by decide) rfl rfl ⟨(Nat.le_of_ble_eq_true rfl), (Nat.le_of_ble_eq_true rfl)⟩ ⟨rfl, rfl⟩ ⟨(Nat.zero_le _), (Nat.zero_le _)⟩ (Nat.le_of_ble_eq_true rfl) ?_
      refine g_iload X 0 dX9_trade_44 rfl ?_
      obtain ⟨rfl, rfl⟩ := lf2 hf
      exact hret 46 _ dX9_trade_46 rfl
    · have hf := it c22 hf
      refine g_bipush X (v := -3) dX9_trade_25 (by decide) ?_
      obtain ⟨rfl, rfl⟩ := lf2 hf
      exact hret 27 _ dX9_trade_27 rfl
  · have hf := it c13 hf
    refine g_bipush X (v := -2) dX9_trade_16 (by decide) ?_
    obtain ⟨rfl, rfl⟩ := lf2 hf
    exact hret 18 _ dX9_trade_18 rfl

theorem kV_X9_162 : wcV RX9 162 RX2 yX2_rounds cX2_rounds 11 (some .int) 3 := ⟨q_ml_X9_162, q_im_yX2_rounds, q_se_yX2_rounds, q_in_X2, q_co_yX2_rounds, by decide +kernel⟩

def X9_round (nt : Nat) (z : Nat → Nat) (m0 : Mem) : Option (Int32 × Mem) :=
  if (m0.1 5 1) < (999 : Int32) then
    bi (X2_rounds nt z 5 (1 : Int32) (-1 : Int32) m0) fun r26 m26 =>
    some (r26, m26)
  else
    some ((-3 : Int32), m0)
abbrev rmX9_round : Room := { frames := 6, cells := 0, slots := 0, locals := 172 }

set_option maxRecDepth 100000 in
set_option maxHeartbeats 4000000 in
theorem c_X9_round {l : Launch} {G : GG} {b : Nat} {ad : Nat → Nat} {nt : Nat} {z : Nat → Nat} {m0 : Mem} {r9 : Int32} {m9 : Mem} (hf : X9_round nt z m0 = some (r9, m9)) : MtI l yX9_round cX9_round 1 (some .int) rmX9_round G b (sg ad nt z) m0 [.ref (ad 0)] (pEI r9 (sg ad nt z) m9) := by
  refine mtI_of (by decide) (Nat.le_of_ble_eq_true rfl) .int rfl (fun Γ hG X hnm hr => ?_)
  have hret : ∀ (pc : Nat) (lv : List (Nat × Value)), decode cX9_round pc = .ok (.ireturn, 1) → narrow .int (.int r9) = .int r9 → Go Γ b (sg ad nt z) 0 0 pc lv [.int r9] m9 := fun pc lv d hn => hr pc lv _ _ _ d ⟨rfl, rfl, rfl⟩ hn
  show Go Γ b (sg ad nt z) 0 0 0 [(0, .ref (ad 0))] [] m0
  refine g_aload_n X 0 dX9_round_0 rfl rfl ?_
  refine g_getr X (x := ad 5) 0 8 1 dX9_round_1 (sgN (by decide)) rfl (by decide) rfl iw_X9 (by decide) rfl q_fl_X9_19 rfl ?_
  refine g_getI X 5 0 1 dX9_round_4 (sgN (by decide)) rfl (by decide) rfl iw_X0 (by decide) rfl q_fl_X9_90 ?_
  refine g_sipush X (v := 999) dX9_round_7 (by decide) ?_
  refine g_icmp_lt X (tgt := 16) dX9_round_10 (by decide) (fun c10 => ?_) (fun c10 => ?_)
  · have hf := it c10 hf
    refine g_aload_n X 0 dX9_round_16 rfl rfl ?_
    refine g_getr X (x := ad 50) 0 8 8 dX9_round_17 (sgN (by decide)) rfl (by decide) rfl iw_X9 (by decide) rfl q_fl_X9_57 rfl ?_
    refine g_aload_n X 0 dX9_round_20 rfl rfl ?_
    refine g_getr X (x := ad 5) 0 8 1 dX9_round_21 (sgN (by decide)) rfl (by decide) rfl iw_X9 (by decide) rfl q_fl_X9_19 rfl ?_
    refine g_iconst X (v := 1) dX9_round_24 (by decide) ?_
    refine g_iconst X (v := -1) dX9_round_25 (by decide) ?_
    obtain ⟨r26, m26, h26, hf⟩ := bi_i hf
    refine g_eVI X 50 1 [.ref (ad 5), .int (1 : Int32), .int (-1 : Int32)] kV_X9_162 (c_X2_rounds (by unfold isF; decide) h26) dX9_round_26 rfl rfl (sgN (by decide)) rfl (by decide) rfl rfl ⟨(Nat.le_of_ble_eq_true rfl), (Nat.le_of_ble_eq_true rfl)⟩ ⟨rfl, rfl⟩ ⟨(Nat.zero_le _), (Nat.zero_le _)⟩ (Nat.le_of_ble_eq_true rfl) ?_
    obtain ⟨rfl, rfl⟩ := lf2 hf
    exact hret 29 _ dX9_round_29 rfl
  · have hf := ie c10 hf
    refine g_bipush X (v := -3) dX9_round_13 (by decide) ?_
    obtain ⟨rfl, rfl⟩ := lf2 hf
    exact hret 15 _ dX9_round_15 rfl

theorem kV_X9_166 : wcV RX9 166 RX0 yX0_become cX0_become 3 (none) 1 := ⟨q_ml_X9_166, q_im_yX0_become, q_se_yX0_become, q_in_X0, q_co_yX0_become, by decide +kernel⟩

theorem kV_X9_173 : wcV RX9 173 RX0 yX0_minutesOfAll cX0_minutesOfAll 3 (some .int) 0 := ⟨q_ml_X9_173, q_im_yX0_minutesOfAll, q_se_yX0_minutesOfAll, q_in_X0, q_co_yX0_minutesOfAll, by decide +kernel⟩

theorem kV_X9_170 : wcV RX9 170 RX0 yX0_ways cX0_ways 4 (some .int) 1 := ⟨q_ml_X9_170, q_im_yX0_ways, q_se_yX0_ways, q_in_X0, q_co_yX0_ways, by decide +kernel⟩

def X9_run_55 (nt : Nat) (z : Nat → Nat) (v1 : Int32) (v2 : Int32) (v3 : Int32) (m0 : Mem) : Option (Int32 × Mem) :=
  bv (X0_become 23 5 m0) fun m63 =>
  bi (X2_rounds nt z 23 v1 (-1 : Int32) m63) fun r76 m76 =>
  if v3 = 0 then
    if v2 = 0 then
      bi (X0_ways 23 (-1 : Int32) m76) fun r106 m106 =>
      some (r106, m106)
    else
      bi (X0_minutesOfAll 23 m76) fun r116 m116 =>
      bi (X0_minutesOfAll 5 m116) fun r123 m123 =>
      some (r116 - r123, m123)
  else
    if inn (v2 - (10 : Int32)) 6 then
    some (m76.1 27 (v2 - (10 : Int32)).toNatClampNeg, m76)
    else none
def X9_run_38 (nt : Nat) (z : Nat → Nat) (v1 : Int32) (v2 : Int32) (s0 : Int32) (m0 : Mem) : Option (Int32 × Mem) :=
  if v2 = 0 then
    X9_run_55 nt z v1 v2 s0 m0
  else
    if v2 = (1 : Int32) then
      X9_run_55 nt z v1 v2 s0 m0
    else
      if s0 = 0 then
        some ((-2 : Int32), m0)
      else
        X9_run_55 nt z v1 v2 s0 m0
def X9_run_37 (nt : Nat) (z : Nat → Nat) (v1 : Int32) (v2 : Int32) (m0 : Mem) : Option (Int32 × Mem) :=
  X9_run_38 nt z v1 v2 (0 : Int32) m0
def X9_run (nt : Nat) (z : Nat → Nat) (p0 : Int32) (p1 : Int32) (m0 : Mem) : Option (Int32 × Mem) :=
  if p0 < 0 then
    some ((-2 : Int32), m0)
  else
    if p0 ≤ (20 : Int32) then
      if p1 < (10 : Int32) then
        X9_run_37 nt z p0 p1 m0
      else
        if ((10 : Int32) + (m0.1 5 0)) ≤ p1 then
          X9_run_37 nt z p0 p1 m0
        else
          X9_run_38 nt z p0 p1 (1 : Int32) m0
    else
      some ((-2 : Int32), m0)
abbrev rmX9_run : Room := { frames := 6, cells := 0, slots := 0, locals := 172 }
set_option maxRecDepth 100000 in
set_option maxHeartbeats 4000000 in
theorem w_X9_run_55 {Γ : Ga} {b : Nat} {ad : Nat → Nat} {nt : Nat} {z : Nat → Nat} {r9 : Int32} {m9 : Mem} (X : Cx Γ b cX9_run 4 RX9 (some .int) rmX9_run) (hret : ∀ (pc : Nat) (lv : List (Nat × Value)), decode cX9_run pc = .ok (.ireturn, 1) → narrow .int (.int r9) = .int r9 → Go Γ b (sg ad nt z) 0 0 pc lv [.int r9] m9) (v1 : Int32) (v2 : Int32) (v3 : Int32) (m0 : Mem) (hf : X9_run_55 nt z v1 v2 v3 m0 = some (r9, m9)) : Go Γ b (sg ad nt z) 0 0 55 [(0, .ref (ad 0)), (1, .int v1), (2, .int v2), (3, .int v3)] [] m0 := by
  refine g_aload_n X 0 dX9_run_55 rfl rfl ?_
  refine g_getr X (x := ad 23) 0 8 5 dX9_run_56 (sgN (by decide)) rfl (by decide) rfl iw_X9 (by decide) rfl q_fl_X9_33 rfl ?_
  refine g_aload_n X 0 dX9_run_59 rfl rfl ?_
  refine g_getr X (x := ad 5) 0 8 1 dX9_run_60 (sgN (by decide)) rfl (by decide) rfl iw_X9 (by decide) rfl q_fl_X9_19 rfl ?_
  obtain ⟨m63, h63, hf⟩ := bv_i hf
  refine g_eVV X 23 0 [.ref (ad 5)] kV_X9_166 (c_X0_become (by unfold isF; decide) (by unfold isF; decide) h63) dX9_run_63 rfl rfl (sgN (by decide)) rfl (by decide) rfl rfl ⟨(Nat.le_of_ble_eq_true rfl), (Nat.le_of_ble_eq_true rfl)⟩ ⟨rfl, rfl⟩ ⟨(Nat.zero_le _), (Nat.zero_le _)⟩ (Nat.le_of_ble_eq_true rfl) ?_
  refine g_aload_n X 0 dX9_run_66 rfl rfl ?_
  refine g_getr X (x := ad 50) 0 8 8 dX9_run_67 (sgN (by decide)) rfl (by decide) rfl iw_X9 (by decide) rfl q_fl_X9_57 rfl ?_
  refine g_aload_n X 0 dX9_run_70 rfl rfl ?_
  refine g_getr X (x := ad 23) 0 8 5 dX9_run_71 (sgN (by decide)) rfl (by decide) rfl iw_X9 (by decide) rfl q_fl_X9_33 rfl ?_
  refine g_iload_n X 1 dX9_run_74 rfl rfl ?_
  refine g_iconst X (v := -1) dX9_run_75 (by decide) ?_
  obtain ⟨r76, m76, h76, hf⟩ := bi_i hf
  refine g_eVI X 50 1 [.ref (ad 23), .int v1, .int (-1 : Int32)] kV_X9_162 (c_X2_rounds (by unfold isF; decide) h76) dX9_run_76 rfl rfl (sgN (by decide)) rfl (by decide) rfl rfl ⟨(Nat.le_of_ble_eq_true rfl), (Nat.le_of_ble_eq_true rfl)⟩ ⟨rfl, rfl⟩ ⟨(Nat.zero_le _), (Nat.zero_le _)⟩ (Nat.le_of_ble_eq_true rfl) ?_
  refine g_pop X dX9_run_79 rfl ?_
  refine g_iload_n X 3 dX9_run_80 rfl rfl ?_
  refine g_if_eq X (tgt := 97) dX9_run_81 (by decide) (fun c81 => ?_) (fun c81 => ?_)
  · have hf := it c81 hf
    refine g_iload_n X 2 dX9_run_97 rfl rfl ?_
    refine g_if_ne X (tgt := 112) dX9_run_98 (by decide) (fun c98 => ?_) (fun c98 => ?_)
    · have hf := ie c98 hf
      refine g_aload_n X 0 dX9_run_112 rfl rfl ?_
      refine g_getr X (x := ad 23) 0 8 5 dX9_run_113 (sgN (by decide)) rfl (by decide) rfl iw_X9 (by decide) rfl q_fl_X9_33 rfl ?_
      obtain ⟨r116, m116, h116, hf⟩ := bi_i hf
      refine g_eVI X 23 0 [] kV_X9_173 (c_X0_minutesOfAll (by unfold isF; decide) h116) dX9_run_116 rfl rfl (sgN (by decide)) rfl (by decide) rfl rfl ⟨(Nat.le_of_ble_eq_true rfl), (Nat.le_of_ble_eq_true rfl)⟩ ⟨rfl, rfl⟩ ⟨(Nat.zero_le _), (Nat.zero_le _)⟩ (Nat.le_of_ble_eq_true rfl) ?_
      refine g_aload_n X 0 dX9_run_119 rfl rfl ?_
      refine g_getr X (x := ad 5) 0 8 1 dX9_run_120 (sgN (by decide)) rfl (by decide) rfl iw_X9 (by decide) rfl q_fl_X9_19 rfl ?_
      obtain ⟨r123, m123, h123, hf⟩ := bi_i hf
      refine g_eVI X 5 0 [] kV_X9_173 (c_X0_minutesOfAll (by unfold isF; decide) h123) dX9_run_123 rfl rfl (sgN (by decide)) rfl (by decide) rfl rfl ⟨(Nat.le_of_ble_eq_true rfl), (Nat.le_of_ble_eq_true rfl)⟩ ⟨rfl, rfl⟩ ⟨(Nat.zero_le _), (Nat.zero_le _)⟩ (Nat.le_of_ble_eq_true rfl) ?_
      refine g_isub X dX9_run_126 ?_
      obtain ⟨rfl, rfl⟩ := lf2 hf
      exact hret 127 _ dX9_run_127 rfl
    · have hf := it c98 hf
      refine g_aload_n X 0 dX9_run_101 rfl rfl ?_
      refine g_getr X (x := ad 23) 0 8 5 dX9_run_102 (sgN (by decide)) rfl (by decide) rfl iw_X9 (by decide) rfl q_fl_X9_33 rfl ?_
      refine g_iconst X (v := -1) dX9_run_105 (by decide) ?_
      obtain ⟨r106, m106, h106, hf⟩ := bi_i hf
      refine g_eVI X 23 0 [.int (-1 : Int32)] kV_X9_170 (c_X0_ways (by unfold isF; decide) h106) dX9_run_106 rfl rfl (sgN (by decide)) rfl (by decide) rfl rfl ⟨(Nat.le_of_ble_eq_true rfl), (Nat.le_of_ble_eq_true rfl)⟩ ⟨rfl, rfl⟩ ⟨(Nat.zero_le _), (Nat.zero_le _)⟩ (Nat.le_of_ble_eq_true rfl) ?_
      refine g_goto X (tgt := 127) dX9_run_109 (by decide) ?_
      obtain ⟨rfl, rfl⟩ := lf2 hf
      exact hret 127 _ dX9_run_127 rfl
  · have hf := ie c81 hf
    refine g_aload_n X 0 dX9_run_84 rfl rfl ?_
    refine g_getr X (x := ad 23) 0 8 5 dX9_run_85 (sgN (by decide)) rfl (by decide) rfl iw_X9 (by decide) rfl q_fl_X9_33 rfl ?_
    refine g_getr X (x := ad 27) 23 0 6 dX9_run_88 (sgN (by decide)) rfl (by decide) rfl iw_X0 (by decide) rfl q_fl_X9_119 rfl ?_
    refine g_iload_n X 2 dX9_run_91 rfl rfl ?_
    refine g_bipush X (v := 10) dX9_run_92 (by decide) ?_
    refine g_isub X dX9_run_94 ?_
    obtain ⟨h95, hf⟩ := grd hf
    refine g_iald X 27 (n := 6) dX9_run_95 (sgN (by decide)) rfl rfl h95 ?_
    obtain ⟨rfl, rfl⟩ := lf2 hf
    exact hret 96 _ dX9_run_96 rfl
set_option maxRecDepth 100000 in
set_option maxHeartbeats 4000000 in
theorem w_X9_run_38 {Γ : Ga} {b : Nat} {ad : Nat → Nat} {nt : Nat} {z : Nat → Nat} {r9 : Int32} {m9 : Mem} (X : Cx Γ b cX9_run 4 RX9 (some .int) rmX9_run) (hret : ∀ (pc : Nat) (lv : List (Nat × Value)), decode cX9_run pc = .ok (.ireturn, 1) → narrow .int (.int r9) = .int r9 → Go Γ b (sg ad nt z) 0 0 pc lv [.int r9] m9) (v1 : Int32) (v2 : Int32) (s0 : Int32) (m0 : Mem) (hf : X9_run_38 nt z v1 v2 s0 m0 = some (r9, m9)) : Go Γ b (sg ad nt z) 0 0 38 [(0, .ref (ad 0)), (1, .int v1), (2, .int v2)] [.int s0] m0 := by
  refine g_istore_n X (lv' := [(3, .int s0), (0, .ref (ad 0)), (1, .int v1), (2, .int v2)]) dX9_run_38 rfl (by decide) rfl ?_
  refine g_iload_n X 3 dX9_run_39 rfl rfl ?_
  refine g_if_eq X (tgt := 55) dX9_run_40 (by decide) (fun c40 => ?_) (fun c40 => ?_)
  · have hf := it c40 hf
    refine g_pick [1, 2, 3, 0] (lv' := [(0, .ref (ad 0)), (1, .int v1), (2, .int v2), (3, .int s0)]) rfl ?_
    exact w_X9_run_55 X hret v1 v2 s0 m0 hf
  · have hf := ie c40 hf
    refine g_iload_n X 3 dX9_run_43 rfl rfl ?_
    refine g_iconst X (v := 1) dX9_run_44 (by decide) ?_
    refine g_icmp_eq X (tgt := 55) dX9_run_45 (by decide) (fun c45 => ?_) (fun c45 => ?_)
    · have hf := it c45 hf
      refine g_pick [1, 2, 3, 0] (lv' := [(0, .ref (ad 0)), (1, .int v1), (2, .int v2), (3, .int s0)]) rfl ?_
      exact w_X9_run_55 X hret v1 v2 s0 m0 hf
    · have hf := ie c45 hf
      refine g_iload_n X 0 dX9_run_48 rfl rfl ?_
      refine g_if_ne X (tgt := 55) dX9_run_49 (by decide) (fun c49 => ?_) (fun c49 => ?_)
      · have hf := ie c49 hf
        refine g_pick [1, 2, 3, 0] (lv' := [(0, .ref (ad 0)), (1, .int v1), (2, .int v2), (3, .int s0)]) rfl ?_
        exact w_X9_run_55 X hret v1 v2 s0 m0 hf
      · have hf := it c49 hf
        refine g_bipush X (v := -2) dX9_run_52 (by decide) ?_
        obtain ⟨rfl, rfl⟩ := lf2 hf
        exact hret 54 _ dX9_run_54 rfl
set_option maxRecDepth 100000 in
set_option maxHeartbeats 4000000 in
theorem w_X9_run_37 {Γ : Ga} {b : Nat} {ad : Nat → Nat} {nt : Nat} {z : Nat → Nat} {r9 : Int32} {m9 : Mem} (X : Cx Γ b cX9_run 4 RX9 (some .int) rmX9_run) (hret : ∀ (pc : Nat) (lv : List (Nat × Value)), decode cX9_run pc = .ok (.ireturn, 1) → narrow .int (.int r9) = .int r9 → Go Γ b (sg ad nt z) 0 0 pc lv [.int r9] m9) (v1 : Int32) (v2 : Int32) (m0 : Mem) (hf : X9_run_37 nt z v1 v2 m0 = some (r9, m9)) : Go Γ b (sg ad nt z) 0 0 37 [(0, .ref (ad 0)), (1, .int v1), (2, .int v2)] [] m0 := by
  refine g_iconst X (v := 0) dX9_run_37 (by decide) ?_
  exact w_X9_run_38 X hret v1 v2 (0 : Int32) m0 hf
set_option maxRecDepth 100000 in
set_option maxHeartbeats 4000000 in
theorem c_X9_run {l : Launch} {G : GG} {b : Nat} {ad : Nat → Nat} {nt : Nat} {z : Nat → Nat} {p0 : Int32} {p1 : Int32} {m0 : Mem} {r9 : Int32} {m9 : Mem} (hf : X9_run nt z p0 p1 m0 = some (r9, m9)) : MtI l yX9_run cX9_run 4 (some .int) rmX9_run G b (sg ad nt z) m0 [.ref (ad 0), .int p0, .int p1] (pEI r9 (sg ad nt z) m9) := by
  refine mtI_of (by decide) (Nat.le_of_ble_eq_true rfl) .int rfl (fun Γ hG X hnm hr => ?_)
  have hret : ∀ (pc : Nat) (lv : List (Nat × Value)), decode cX9_run pc = .ok (.ireturn, 1) → narrow .int (.int r9) = .int r9 → Go Γ b (sg ad nt z) 0 0 pc lv [.int r9] m9 := fun pc lv d hn => hr pc lv _ _ _ d ⟨rfl, rfl, rfl⟩ hn
  show Go Γ b (sg ad nt z) 0 0 0 [(0, .ref (ad 0)), (1, .int p0), (2, .int p1)] [] m0
  refine g_iload_n X 1 dX9_run_0 rfl rfl ?_
  refine g_if_lt X (tgt := 10) dX9_run_1 (by decide) (fun c1 => ?_) (fun c1 => ?_)
  · have hf := it c1 hf
    refine g_bipush X (v := -2) dX9_run_10 (by decide) ?_
    obtain ⟨rfl, rfl⟩ := lf2 hf
    exact hret 12 _ dX9_run_12 rfl
  · have hf := ie c1 hf
    refine g_iload_n X 1 dX9_run_4 rfl rfl ?_
    refine g_bipush X (v := 20) dX9_run_5 (by decide) ?_
    refine g_icmp_le X (tgt := 13) dX9_run_7 (by decide) (fun c7 => ?_) (fun c7 => ?_)
    · have hf := it c7 hf
      refine g_iload_n X 2 dX9_run_13 rfl rfl ?_
      refine g_bipush X (v := 10) dX9_run_14 (by decide) ?_
      refine g_icmp_lt X (tgt := 37) dX9_run_16 (by decide) (fun c16 => ?_) (fun c16 => ?_)
      · have hf := it c16 hf
        exact w_X9_run_37 X hret p0 p1 m0 hf
      · have hf := ie c16 hf
        refine g_iload_n X 2 dX9_run_19 rfl rfl ?_
        refine g_bipush X (v := 10) dX9_run_20 (by decide) ?_
        refine g_aload_n X 0 dX9_run_22 rfl rfl ?_
        refine g_getr X (x := ad 5) 0 8 1 dX9_run_23 (sgN (by decide)) rfl (by decide) rfl iw_X9 (by decide) rfl q_fl_X9_19 rfl ?_
        refine g_getI X 5 0 0 dX9_run_26 (sgN (by decide)) rfl (by decide) rfl iw_X0 (by decide) rfl q_fl_X9_165 ?_
        refine g_iadd X dX9_run_29 ?_
        refine g_icmp_ge X (tgt := 37) dX9_run_30 (by decide) (fun c30 => ?_) (fun c30 => ?_)
        · have hf := it c30 hf
          exact w_X9_run_37 X hret p0 p1 m0 hf
        · have hf := ie c30 hf
          refine g_iconst X (v := 1) dX9_run_33 (by decide) ?_
          refine g_goto X (tgt := 38) dX9_run_34 (by decide) ?_
          exact w_X9_run_38 X hret p0 p1 (1 : Int32) m0 hf
    · have hf := ie c7 hf
      refine g_bipush X (v := -2) dX9_run_10 (by decide) ?_
      obtain ⟨rfl, rfl⟩ := lf2 hf
      exact hret 12 _ dX9_run_12 rfl

theorem kV_X9_177 : wcV RX9 177 RX0 yX0_knownByAny cX0_knownByAny 4 (some .int) 1 := ⟨q_ml_X9_177, q_im_yX0_knownByAny, q_se_yX0_knownByAny, q_in_X0, q_co_yX0_knownByAny, by decide +kernel⟩

theorem kV_X9_180 : wcV RX9 180 RX0 yX0_knownByAll cX0_knownByAll 3 (some .int) 0 := ⟨q_ml_X9_180, q_im_yX0_knownByAll, q_se_yX0_knownByAll, q_in_X0, q_co_yX0_knownByAll, by decide +kernel⟩

def X9_all (nt : Nat) (z : Nat → Nat) (p0 : Int32) (m0 : Mem) : Option (Int32 × Mem) :=
  if p0 = (0 : Int32) then
    bi (X0_ways 5 (-1 : Int32) m0) fun r37 m37 =>
    some (r37, m37)
  else
    if p0 = (1 : Int32) then
      bi (X0_knownByAny 5 (-1 : Int32) m0) fun r46 m46 =>
      some (r46, m46)
    else
      if p0 = (2 : Int32) then
        bi (X0_knownByAll 5 m0) fun r54 m54 =>
        some (r54, m54)
      else
        if p0 = (3 : Int32) then
          bv (X0_become 23 5 m0) fun m66 =>
          bi (X2_rounds nt z 23 (1 : Int32) (-1 : Int32) m66) fun r79 m79 =>
          if r79 = 0 then
            some ((1 : Int32), m79)
          else
            some ((0 : Int32), m79)
        else
          some ((-2 : Int32), m0)
abbrev rmX9_all : Room := { frames := 6, cells := 0, slots := 0, locals := 172 }

set_option maxRecDepth 100000 in
set_option maxHeartbeats 4000000 in
theorem c_X9_all {l : Launch} {G : GG} {b : Nat} {ad : Nat → Nat} {nt : Nat} {z : Nat → Nat} {p0 : Int32} {m0 : Mem} {r9 : Int32} {m9 : Mem} (hf : X9_all nt z p0 m0 = some (r9, m9)) : MtI l yX9_all cX9_all 2 (some .int) rmX9_all G b (sg ad nt z) m0 [.ref (ad 0), .int p0] (pEI r9 (sg ad nt z) m9) := by
  refine mtI_of (by decide) (Nat.le_of_ble_eq_true rfl) .int rfl (fun Γ hG X hnm hr => ?_)
  have hret : ∀ (pc : Nat) (lv : List (Nat × Value)), decode cX9_all pc = .ok (.ireturn, 1) → narrow .int (.int r9) = .int r9 → Go Γ b (sg ad nt z) 0 0 pc lv [.int r9] m9 := fun pc lv d hn => hr pc lv _ _ _ d ⟨rfl, rfl, rfl⟩ hn
  show Go Γ b (sg ad nt z) 0 0 0 [(0, .ref (ad 0)), (1, .int p0)] [] m0
  refine g_iload_n X 1 dX9_all_0 rfl rfl ?_
  by_cases c1_0 : p0 = (0 : Int32)
  · have hf := it c1_0 hf
    refine g_tblIn X (tgt := 32) dX9_all_1 (by rw [c1_0]; decide) (by rw [c1_0]; decide) (off := 31) (by rw [c1_0]; rfl) (by decide) ?_
    refine g_aload_n X 0 dX9_all_32 rfl rfl ?_
    refine g_getr X (x := ad 5) 0 8 1 dX9_all_33 (sgN (by decide)) rfl (by decide) rfl iw_X9 (by decide) rfl q_fl_X9_19 rfl ?_
    refine g_iconst X (v := -1) dX9_all_36 (by decide) ?_
    obtain ⟨r37, m37, h37, hf⟩ := bi_i hf
    refine g_eVI X 5 0 [.int (-1 : Int32)] kV_X9_170 (c_X0_ways (by unfold isF; decide) h37) dX9_all_37 rfl rfl (sgN (by decide)) rfl (by decide) rfl rfl ⟨(Nat.le_of_ble_eq_true rfl), (Nat.le_of_ble_eq_true rfl)⟩ ⟨rfl, rfl⟩ ⟨(Nat.zero_le _), (Nat.zero_le _)⟩ (Nat.le_of_ble_eq_true rfl) ?_
    obtain ⟨rfl, rfl⟩ := lf2 hf
    exact hret 40 _ dX9_all_40 rfl
  · have hf := ie c1_0 hf
    by_cases c1_1 : p0 = (1 : Int32)
    · have hf := it c1_1 hf
      refine g_tblIn X (tgt := 41) dX9_all_1 (by rw [c1_1]; decide) (by rw [c1_1]; decide) (off := 40) (by rw [c1_1]; rfl) (by decide) ?_
      refine g_aload_n X 0 dX9_all_41 rfl rfl ?_
      refine g_getr X (x := ad 5) 0 8 1 dX9_all_42 (sgN (by decide)) rfl (by decide) rfl iw_X9 (by decide) rfl q_fl_X9_19 rfl ?_
      refine g_iconst X (v := -1) dX9_all_45 (by decide) ?_
      obtain ⟨r46, m46, h46, hf⟩ := bi_i hf
      refine g_eVI X 5 0 [.int (-1 : Int32)] kV_X9_177 (c_X0_knownByAny (by unfold isF; decide) h46) dX9_all_46 rfl rfl (sgN (by decide)) rfl (by decide) rfl rfl ⟨(Nat.le_of_ble_eq_true rfl), (Nat.le_of_ble_eq_true rfl)⟩ ⟨rfl, rfl⟩ ⟨(Nat.zero_le _), (Nat.zero_le _)⟩ (Nat.le_of_ble_eq_true rfl) ?_
      obtain ⟨rfl, rfl⟩ := lf2 hf
      exact hret 49 _ dX9_all_49 rfl
    · have hf := ie c1_1 hf
      by_cases c1_2 : p0 = (2 : Int32)
      · have hf := it c1_2 hf
        refine g_tblIn X (tgt := 50) dX9_all_1 (by rw [c1_2]; decide) (by rw [c1_2]; decide) (off := 49) (by rw [c1_2]; rfl) (by decide) ?_
        refine g_aload_n X 0 dX9_all_50 rfl rfl ?_
        refine g_getr X (x := ad 5) 0 8 1 dX9_all_51 (sgN (by decide)) rfl (by decide) rfl iw_X9 (by decide) rfl q_fl_X9_19 rfl ?_
        obtain ⟨r54, m54, h54, hf⟩ := bi_i hf
        refine g_eVI X 5 0 [] kV_X9_180 (c_X0_knownByAll (by unfold isF; decide) h54) dX9_all_54 rfl rfl (sgN (by decide)) rfl (by decide) rfl rfl ⟨(Nat.le_of_ble_eq_true rfl), (Nat.le_of_ble_eq_true rfl)⟩ ⟨rfl, rfl⟩ ⟨(Nat.zero_le _), (Nat.zero_le _)⟩ (Nat.le_of_ble_eq_true rfl) ?_
        obtain ⟨rfl, rfl⟩ := lf2 hf
        exact hret 57 _ dX9_all_57 rfl
      · have hf := ie c1_2 hf
        by_cases c1_3 : p0 = (3 : Int32)
        · have hf := it c1_3 hf
          refine g_tblIn X (tgt := 58) dX9_all_1 (by rw [c1_3]; decide) (by rw [c1_3]; decide) (off := 57) (by rw [c1_3]; rfl) (by decide) ?_
          refine g_aload_n X 0 dX9_all_58 rfl rfl ?_
          refine g_getr X (x := ad 23) 0 8 5 dX9_all_59 (sgN (by decide)) rfl (by decide) rfl iw_X9 (by decide) rfl q_fl_X9_33 rfl ?_
          refine g_aload_n X 0 dX9_all_62 rfl rfl ?_
          refine g_getr X (x := ad 5) 0 8 1 dX9_all_63 (sgN (by decide)) rfl (by decide) rfl iw_X9 (by decide) rfl q_fl_X9_19 rfl ?_
          obtain ⟨m66, h66, hf⟩ := bv_i hf
          refine g_eVV X 23 0 [.ref (ad 5)] kV_X9_166 (c_X0_become (by unfold isF; decide) (by unfold isF; decide) h66) dX9_all_66 rfl rfl (sgN (by decide)) rfl (by decide) rfl rfl ⟨(Nat.le_of_ble_eq_true rfl), (Nat.le_of_ble_eq_true rfl)⟩ ⟨rfl, rfl⟩ ⟨(Nat.zero_le _), (Nat.zero_le _)⟩ (Nat.le_of_ble_eq_true rfl) ?_
          refine g_aload_n X 0 dX9_all_69 rfl rfl ?_
          refine g_getr X (x := ad 50) 0 8 8 dX9_all_70 (sgN (by decide)) rfl (by decide) rfl iw_X9 (by decide) rfl q_fl_X9_57 rfl ?_
          refine g_aload_n X 0 dX9_all_73 rfl rfl ?_
          refine g_getr X (x := ad 23) 0 8 5 dX9_all_74 (sgN (by decide)) rfl (by decide) rfl iw_X9 (by decide) rfl q_fl_X9_33 rfl ?_
          refine g_iconst X (v := 1) dX9_all_77 (by decide) ?_
          refine g_iconst X (v := -1) dX9_all_78 (by decide) ?_
          obtain ⟨r79, m79, h79, hf⟩ := bi_i hf
          refine g_eVI X 50 1 [.ref (ad 23), .int (1 : Int32), .int (-1 : Int32)] kV_X9_162 (c_X2_rounds (by unfold isF; decide) h79) dX9_all_79 rfl rfl (sgN (by decide)) rfl (by decide) rfl rfl ⟨(Nat.le_of_ble_eq_true rfl), (Nat.le_of_ble_eq_true rfl)⟩ ⟨rfl, rfl⟩ ⟨(Nat.zero_le _), (Nat.zero_le _)⟩ (Nat.le_of_ble_eq_true rfl) ?_
          refine g_if_ne X (tgt := 89) dX9_all_82 (by decide) (fun c82 => ?_) (fun c82 => ?_)
          · have hf := ie c82 hf
            refine g_iconst X (v := 0) dX9_all_89 (by decide) ?_
            obtain ⟨rfl, rfl⟩ := lf2 hf
            exact hret 90 _ dX9_all_90 rfl
          · have hf := it c82 hf
            refine g_iconst X (v := 1) dX9_all_85 (by decide) ?_
            refine g_goto X (tgt := 90) dX9_all_86 (by decide) ?_
            obtain ⟨rfl, rfl⟩ := lf2 hf
            exact hret 90 _ dX9_all_90 rfl
        · have hf := ie c1_3 hf
          refine g_tblOut X (tgt := 91) dX9_all_1 (by have g0 := lv_neT (a := 0) c1_0 rfl; have g1 := lv_neT (a := 1) c1_1 rfl; have g2 := lv_neT (a := 2) c1_2 rfl; have g3 := lv_neT (a := 3) c1_3 rfl; omega) (by decide) ?_
          refine g_bipush X (v := -2) dX9_all_91 (by decide) ?_
          obtain ⟨rfl, rfl⟩ := lf2 hf
          exact hret 93 _ dX9_all_93 rfl

theorem kV_X9_183 : wcV RX9 183 RX0 yX0_isKnown cX0_isKnown 3 (some .boolean) 2 := ⟨q_ml_X9_183, q_im_yX0_isKnown, q_se_yX0_isKnown, q_in_X0, q_co_yX0_isKnown, by decide +kernel⟩

theorem kV_X9_187 : wcV RX9 187 RX2 yX2_restsForGood cX2_restsForGood 2 (some .boolean) 1 := ⟨q_ml_X9_187, q_im_yX2_restsForGood, q_se_yX2_restsForGood, q_in_X2, q_co_yX2_restsForGood, by decide +kernel⟩

def X9_soon_87 (nt : Nat) (z : Nat → Nat) (k31 : Int32 → Int32 → Int32 → Mem → Option (Int32 × Mem)) (v1 : Int32) (v2 : Int32) (v3 : Int32) (m0 : Mem) : Option (Int32 × Mem) :=
  k31 v1 v2 (v3 + (1 : Int32)) m0
def X9_soon_31 (nt : Nat) (z : Nat → Nat) : Nat → Int32 → Int32 → Int32 → Mem → Option (Int32 × Mem)
  | 0, _, _, _, _ => none
  | n + 1, v1, v2, v3, m0 =>
    if (20 : Int32) ≤ v3 then
      bi (X0_isKnown 23 v1 v2 m0) fun r99 m99 =>
      if r99 = 0 then
        some ((-1 : Int32), m99)
      else
        some ((20 : Int32), m99)
    else
      bi (X0_isKnown 23 v1 v2 m0) fun r43 m43 =>
      if r43 = 0 then
        bi (X2_rounds nt z 23 (1 : Int32) (-1 : Int32) m43) fun r61 m61 =>
        if r61 = 0 then
          bi (X2_restsForGood nt z 23 m61) fun r79 m79 =>
          if r79 = 0 then
            X9_soon_87 nt z (X9_soon_31 nt z n) v1 v2 v3 m79
          else
            some ((-1 : Int32), m79)
        else
          X9_soon_87 nt z (X9_soon_31 nt z n) v1 v2 v3 m61
      else
        some (v3, m43)
def X9_soon (nt : Nat) (z : Nat → Nat) (p0 : Int32) (p1 : Int32) (m0 : Mem) : Option (Int32 × Mem) :=
  bi (X9_isPerson p0 m0) fun r2 m2 =>
  if r2 = 0 then
    some ((-2 : Int32), m2)
  else
    bi (X9_isPlace p1 m2) fun r9 m9 =>
    if r9 = 0 then
      some ((-2 : Int32), m9)
    else
      bv (X0_become 23 5 m9) fun m26 =>
      X9_soon_31 nt z 10000 p0 p1 (0 : Int32) m26
abbrev rmX9_soon : Room := { frames := 6, cells := 0, slots := 0, locals := 172 }
set_option maxRecDepth 100000 in
set_option maxHeartbeats 4000000 in
theorem w_X9_soon_87 {Γ : Ga} {b : Nat} {ad : Nat → Nat} {nt : Nat} {z : Nat → Nat} {k31 : Int32 → Int32 → Int32 → Mem → Option (Int32 × Mem)} {r9 : Int32} {m9 : Mem} (X : Cx Γ b cX9_soon 5 RX9 (some .int) rmX9_soon) (hret : ∀ (pc : Nat) (lv : List (Nat × Value)), decode cX9_soon pc = .ok (.ireturn, 1) → narrow .int (.int r9) = .int r9 → Go Γ b (sg ad nt z) 0 0 pc lv [.int r9] m9) (hk31 : ∀ (v1 : Int32) (v2 : Int32) (v3 : Int32) (m0 : Mem), k31 v1 v2 v3 m0 = some (r9, m9) → Go Γ b (sg ad nt z) 0 0 31 [(0, .ref (ad 0)), (1, .int v1), (2, .int v2), (3, .int v3)] [] m0) (v1 : Int32) (v2 : Int32) (v3 : Int32) (m0 : Mem) (hf : X9_soon_87 nt z k31 v1 v2 v3 m0 = some (r9, m9)) : Go Γ b (sg ad nt z) 0 0 87 [(0, .ref (ad 0)), (1, .int v1), (2, .int v2), (3, .int v3)] [] m0 := by
  refine g_iinc X 3 (v := v3 + (1 : Int32)) (lv' := [(3, .int (v3 + (1 : Int32))), (0, .ref (ad 0)), (1, .int v1), (2, .int v2)]) dX9_soon_87 rfl rfl (by decide) rfl ?_
  refine g_goto X (tgt := 31) dX9_soon_90 (by decide) ?_
  refine g_pick [1, 2, 3, 0] (lv' := [(0, .ref (ad 0)), (1, .int v1), (2, .int v2), (3, .int (v3 + (1 : Int32)))]) rfl ?_
  exact hk31 v1 v2 (v3 + (1 : Int32)) m0 hf
set_option maxRecDepth 100000 in
set_option maxHeartbeats 4000000 in
theorem w_X9_soon_31 {Γ : Ga} {b : Nat} {ad : Nat → Nat} {nt : Nat} {z : Nat → Nat} {r9 : Int32} {m9 : Mem} (X : Cx Γ b cX9_soon 5 RX9 (some .int) rmX9_soon) (hret : ∀ (pc : Nat) (lv : List (Nat × Value)), decode cX9_soon pc = .ok (.ireturn, 1) → narrow .int (.int r9) = .int r9 → Go Γ b (sg ad nt z) 0 0 pc lv [.int r9] m9) : ∀ (n : Nat) (v1 : Int32) (v2 : Int32) (v3 : Int32) (m0 : Mem), X9_soon_31 nt z n v1 v2 v3 m0 = some (r9, m9) → Go Γ b (sg ad nt z) 0 0 31 [(0, .ref (ad 0)), (1, .int v1), (2, .int v2), (3, .int v3)] [] m0 := by
  intro n
  induction n with
  | zero =>
    intro v1 v2 v3 m0 hf
    cases hf
  | succ n ih =>
    intro v1 v2 v3 m0 hf
    refine g_iload_n X 3 dX9_soon_31 rfl rfl ?_
    refine g_bipush X (v := 20) dX9_soon_32 (by decide) ?_
    refine g_icmp_ge X (tgt := 93) dX9_soon_34 (by decide) (fun c34 => ?_) (fun c34 => ?_)
    · have hf := it c34 hf
      refine g_aload_n X 0 dX9_soon_93 rfl rfl ?_
      refine g_getr X (x := ad 23) 0 8 5 dX9_soon_94 (sgN (by decide)) rfl (by decide) rfl iw_X9 (by decide) rfl q_fl_X9_33 rfl ?_
      refine g_iload_n X 1 dX9_soon_97 rfl rfl ?_
      refine g_iload_n X 2 dX9_soon_98 rfl rfl ?_
      obtain ⟨r99, m99, h99, hf⟩ := bi_i hf
      refine g_eVI X 23 0 [.int v1, .int v2] kV_X9_183 (c_X0_isKnown (by unfold isF; decide) h99) dX9_soon_99 rfl rfl (sgN (by decide)) rfl (by decide) rfl rfl ⟨(Nat.le_of_ble_eq_true rfl), (Nat.le_of_ble_eq_true rfl)⟩ ⟨rfl, rfl⟩ ⟨(Nat.zero_le _), (Nat.zero_le _)⟩ (Nat.le_of_ble_eq_true rfl) ?_
      refine g_if_eq X (tgt := 110) dX9_soon_102 (by decide) (fun c102 => ?_) (fun c102 => ?_)
      · have hf := it c102 hf
        refine g_iconst X (v := -1) dX9_soon_110 (by decide) ?_
        obtain ⟨rfl, rfl⟩ := lf2 hf
        exact hret 111 _ dX9_soon_111 rfl
      · have hf := ie c102 hf
        refine g_bipush X (v := 20) dX9_soon_105 (by decide) ?_
        refine g_goto X (tgt := 111) dX9_soon_107 (by decide) ?_
        obtain ⟨rfl, rfl⟩ := lf2 hf
        exact hret 111 _ dX9_soon_111 rfl
    · have hf := ie c34 hf
      refine g_aload_n X 0 dX9_soon_37 rfl rfl ?_
      refine g_getr X (x := ad 23) 0 8 5 dX9_soon_38 (sgN (by decide)) rfl (by decide) rfl iw_X9 (by decide) rfl q_fl_X9_33 rfl ?_
      refine g_iload_n X 1 dX9_soon_41 rfl rfl ?_
      refine g_iload_n X 2 dX9_soon_42 rfl rfl ?_
      obtain ⟨r43, m43, h43, hf⟩ := bi_i hf
      refine g_eVI X 23 0 [.int v1, .int v2] kV_X9_183 (c_X0_isKnown (by unfold isF; decide) h43) dX9_soon_43 rfl rfl (sgN (by decide)) rfl (by decide) rfl rfl ⟨(Nat.le_of_ble_eq_true rfl), (Nat.le_of_ble_eq_true rfl)⟩ ⟨rfl, rfl⟩ ⟨(Nat.zero_le _), (Nat.zero_le _)⟩ (Nat.le_of_ble_eq_true rfl) ?_
      refine g_if_eq X (tgt := 51) dX9_soon_46 (by decide) (fun c46 => ?_) (fun c46 => ?_)
      · have hf := it c46 hf
        refine g_aload_n X 0 dX9_soon_51 rfl rfl ?_
        refine g_getr X (x := ad 50) 0 8 8 dX9_soon_52 (sgN (by decide)) rfl (by decide) rfl iw_X9 (by decide) rfl q_fl_X9_57 rfl ?_
        refine g_aload_n X 0 dX9_soon_55 rfl rfl ?_
        refine g_getr X (x := ad 23) 0 8 5 dX9_soon_56 (sgN (by decide)) rfl (by decide) rfl iw_X9 (by decide) rfl q_fl_X9_33 rfl ?_
        refine g_iconst X (v := 1) dX9_soon_59 (by decide) ?_
        refine g_iconst X (v := -1) dX9_soon_60 (by decide) ?_
        obtain ⟨r61, m61, h61, hf⟩ := bi_i hf
        refine g_eVI X 50 1 [.ref (ad 23), .int (1 : Int32), .int (-1 : Int32)] kV_X9_162 (c_X2_rounds (by unfold isF; decide) h61) dX9_soon_61 rfl rfl (sgN (by decide)) rfl (by decide) rfl rfl ⟨(Nat.le_of_ble_eq_true rfl), (Nat.le_of_ble_eq_true rfl)⟩ ⟨rfl, rfl⟩ ⟨(Nat.zero_le _), (Nat.zero_le _)⟩ (Nat.le_of_ble_eq_true rfl) ?_
        refine g_istore X (lv' := [(4, .int r61), (0, .ref (ad 0)), (1, .int v1), (2, .int v2), (3, .int v3)]) dX9_soon_64 (by decide) rfl ?_
        refine g_iload X 0 dX9_soon_66 rfl ?_
        refine g_if_ne X (tgt := 87) dX9_soon_68 (by decide) (fun c68 => ?_) (fun c68 => ?_)
        · have hf := ie c68 hf
          refine g_pick [1, 2, 3, 4] (lv' := [(0, .ref (ad 0)), (1, .int v1), (2, .int v2), (3, .int v3)]) rfl ?_
          exact w_X9_soon_87 X hret ih v1 v2 v3 m61 hf
        · have hf := it c68 hf
          refine g_aload_n X 1 dX9_soon_71 rfl rfl ?_
          refine g_getr X (x := ad 50) 0 8 8 dX9_soon_72 (sgN (by decide)) rfl (by decide) rfl iw_X9 (by decide) rfl q_fl_X9_57 rfl ?_
          refine g_aload_n X 1 dX9_soon_75 rfl rfl ?_
          refine g_getr X (x := ad 23) 0 8 5 dX9_soon_76 (sgN (by decide)) rfl (by decide) rfl iw_X9 (by decide) rfl q_fl_X9_33 rfl ?_
          obtain ⟨r79, m79, h79, hf⟩ := bi_i hf
          refine g_eVI X 50 1 [.ref (ad 23)] kV_X9_187 (c_X2_restsForGood (by unfold isF; decide) h79) dX9_soon_79 rfl rfl (sgN (by decide)) rfl (by decide) rfl rfl ⟨(Nat.le_of_ble_eq_true rfl), (Nat.le_of_ble_eq_true rfl)⟩ ⟨rfl, rfl⟩ ⟨(Nat.zero_le _), (Nat.zero_le _)⟩ (Nat.le_of_ble_eq_true rfl) ?_
          refine g_if_eq X (tgt := 87) dX9_soon_82 (by decide) (fun c82 => ?_) (fun c82 => ?_)
          · have hf := it c82 hf
            refine g_pick [1, 2, 3, 4] (lv' := [(0, .ref (ad 0)), (1, .int v1), (2, .int v2), (3, .int v3)]) rfl ?_
            exact w_X9_soon_87 X hret ih v1 v2 v3 m79 hf
          · have hf := ie c82 hf
            refine g_iconst X (v := -1) dX9_soon_85 (by decide) ?_
            obtain ⟨rfl, rfl⟩ := lf2 hf
            exact hret 86 _ dX9_soon_86 rfl
      · have hf := ie c46 hf
        refine g_iload_n X 3 dX9_soon_49 rfl rfl ?_
        obtain ⟨rfl, rfl⟩ := lf2 hf
        exact hret 50 _ dX9_soon_50 rfl
set_option maxRecDepth 100000 in
set_option maxHeartbeats 4000000 in
theorem c_X9_soon {l : Launch} {G : GG} {b : Nat} {ad : Nat → Nat} {nt : Nat} {z : Nat → Nat} {p0 : Int32} {p1 : Int32} {m0 : Mem} {r9 : Int32} {m9 : Mem} (hf : X9_soon nt z p0 p1 m0 = some (r9, m9)) : MtI l yX9_soon cX9_soon 5 (some .int) rmX9_soon G b (sg ad nt z) m0 [.ref (ad 0), .int p0, .int p1] (pEI r9 (sg ad nt z) m9) := by
  refine mtI_of (by decide) (Nat.le_of_ble_eq_true rfl) .int rfl (fun Γ hG X hnm hr => ?_)
  have hret : ∀ (pc : Nat) (lv : List (Nat × Value)), decode cX9_soon pc = .ok (.ireturn, 1) → narrow .int (.int r9) = .int r9 → Go Γ b (sg ad nt z) 0 0 pc lv [.int r9] m9 := fun pc lv d hn => hr pc lv _ _ _ d ⟨rfl, rfl, rfl⟩ hn
  show Go Γ b (sg ad nt z) 0 0 0 [(0, .ref (ad 0)), (1, .int p0), (2, .int p1)] [] m0
  refine g_aload_n X 0 dX9_soon_0 rfl rfl ?_
  refine g_iload_n X 1 dX9_soon_1 rfl rfl ?_
  obtain ⟨r2, m2, h2, hf⟩ := bi_i hf
  refine g_eVI X 0 8 [.int p0] kV_X9_86 (c_X9_isPerson h2) dX9_soon_2 rfl rfl (sgN (by decide)) rfl (by decide) rfl rfl ⟨(Nat.le_of_ble_eq_true rfl), (Nat.le_of_ble_eq_true rfl)⟩ ⟨rfl, rfl⟩ ⟨(Nat.zero_le _), (Nat.zero_le _)⟩ (Nat.le_of_ble_eq_true rfl) ?_
  refine g_if_eq X (tgt := 15) dX9_soon_5 (by decide) (fun c5 => ?_) (fun c5 => ?_)
  · have hf := it c5 hf
    refine g_bipush X (v := -2) dX9_soon_15 (by decide) ?_
    obtain ⟨rfl, rfl⟩ := lf2 hf
    exact hret 17 _ dX9_soon_17 rfl
  · have hf := ie c5 hf
    refine g_iload_n X 2 dX9_soon_8 rfl rfl ?_
    obtain ⟨r9, m9, h9, hf⟩ := bi_i hf
    refine g_eSI X [.int p1] kS_X9_98 (c_X9_isPlace h9) dX9_soon_9 rfl rfl ⟨(Nat.le_of_ble_eq_true rfl), (Nat.le_of_ble_eq_true rfl)⟩ ⟨rfl, rfl⟩ ⟨(Nat.zero_le _), (Nat.zero_le _)⟩ (Nat.le_of_ble_eq_true rfl) ?_
    refine g_if_ne X (tgt := 18) dX9_soon_12 (by decide) (fun c12 => ?_) (fun c12 => ?_)
    · have hf := ie c12 hf
      refine g_aload_n X 0 dX9_soon_18 rfl rfl ?_
      refine g_getr X (x := ad 23) 0 8 5 dX9_soon_19 (sgN (by decide)) rfl (by decide) rfl iw_X9 (by decide) rfl q_fl_X9_33 rfl ?_
      refine g_aload_n X 0 dX9_soon_22 rfl rfl ?_
      refine g_getr X (x := ad 5) 0 8 1 dX9_soon_23 (sgN (by decide)) rfl (by decide) rfl iw_X9 (by decide) rfl q_fl_X9_19 rfl ?_
      obtain ⟨m26, h26, hf⟩ := bv_i hf
      refine g_eVV X 23 0 [.ref (ad 5)] kV_X9_166 (c_X0_become (by unfold isF; decide) (by unfold isF; decide) h26) dX9_soon_26 rfl rfl (sgN (by decide)) rfl (by decide) rfl rfl ⟨(Nat.le_of_ble_eq_true rfl), (Nat.le_of_ble_eq_true rfl)⟩ ⟨rfl, rfl⟩ ⟨(Nat.zero_le _), (Nat.zero_le _)⟩ (Nat.le_of_ble_eq_true rfl) ?_
      refine g_iconst X (v := 0) dX9_soon_29 (by decide) ?_
      refine g_istore_n X (lv' := [(3, .int (0 : Int32)), (0, .ref (ad 0)), (1, .int p0), (2, .int p1)]) dX9_soon_30 rfl (by decide) rfl ?_
      refine g_pick [1, 2, 3, 0] (lv' := [(0, .ref (ad 0)), (1, .int p0), (2, .int p1), (3, .int (0 : Int32))]) rfl ?_
      exact w_X9_soon_31 X hret 10000 p0 p1 (0 : Int32) m26 hf
    · have hf := it c12 hf
      refine g_bipush X (v := -2) dX9_soon_15 (by decide) ?_
      obtain ⟨rfl, rfl⟩ := lf2 hf
      exact hret 17 _ dX9_soon_17 rfl

def X9_waysWithGift (nt : Nat) (z : Nat → Nat) (p0 : Int32) (p1 : Int32) (m0 : Mem) : Option (Int32 × Mem) :=
  bv (X0_become 23 5 m0) fun m8 =>
  if inn p0 6 then
  if inn p0 6 then
  bi (X2_rounds nt z 23 (8 : Int32) (-1 : Int32) (pI m8 27 p0.toNatClampNeg ((m8.1 27 p0.toNatClampNeg) ||| p1))) fun r35 m35 =>
  bi (X0_ways 23 (-1 : Int32) m35) fun r44 m44 =>
  some (r44, m44)
  else none
  else none
abbrev rmX9_waysWithGift : Room := { frames := 6, cells := 0, slots := 0, locals := 172 }

set_option maxRecDepth 100000 in
set_option maxHeartbeats 4000000 in
theorem c_X9_waysWithGift {l : Launch} {G : GG} {b : Nat} {ad : Nat → Nat} {nt : Nat} {z : Nat → Nat} {p0 : Int32} {p1 : Int32} {m0 : Mem} {r9 : Int32} {m9 : Mem} (hf : X9_waysWithGift nt z p0 p1 m0 = some (r9, m9)) : MtI l yX9_waysWithGift cX9_waysWithGift 3 (some .int) rmX9_waysWithGift G b (sg ad nt z) m0 [.ref (ad 0), .int p0, .int p1] (pEI r9 (sg ad nt z) m9) := by
  refine mtI_of (by decide) (Nat.le_of_ble_eq_true rfl) .int rfl (fun Γ hG X hnm hr => ?_)
  have hret : ∀ (pc : Nat) (lv : List (Nat × Value)), decode cX9_waysWithGift pc = .ok (.ireturn, 1) → narrow .int (.int r9) = .int r9 → Go Γ b (sg ad nt z) 0 0 pc lv [.int r9] m9 := fun pc lv d hn => hr pc lv _ _ _ d ⟨rfl, rfl, rfl⟩ hn
  show Go Γ b (sg ad nt z) 0 0 0 [(0, .ref (ad 0)), (1, .int p0), (2, .int p1)] [] m0
  refine g_aload_n X 0 dX9_waysWithGift_0 rfl rfl ?_
  refine g_getr X (x := ad 23) 0 8 5 dX9_waysWithGift_1 (sgN (by decide)) rfl (by decide) rfl iw_X9 (by decide) rfl q_fl_X9_33 rfl ?_
  refine g_aload_n X 0 dX9_waysWithGift_4 rfl rfl ?_
  refine g_getr X (x := ad 5) 0 8 1 dX9_waysWithGift_5 (sgN (by decide)) rfl (by decide) rfl iw_X9 (by decide) rfl q_fl_X9_19 rfl ?_
  obtain ⟨m8, h8, hf⟩ := bv_i hf
  refine g_eVV X 23 0 [.ref (ad 5)] kV_X9_166 (c_X0_become (by unfold isF; decide) (by unfold isF; decide) h8) dX9_waysWithGift_8 rfl rfl (sgN (by decide)) rfl (by decide) rfl rfl ⟨(Nat.le_of_ble_eq_true rfl), (Nat.le_of_ble_eq_true rfl)⟩ ⟨rfl, rfl⟩ ⟨(Nat.zero_le _), (Nat.zero_le _)⟩ (Nat.le_of_ble_eq_true rfl) ?_
  refine g_aload_n X 0 dX9_waysWithGift_11 rfl rfl ?_
  refine g_getr X (x := ad 23) 0 8 5 dX9_waysWithGift_12 (sgN (by decide)) rfl (by decide) rfl iw_X9 (by decide) rfl q_fl_X9_33 rfl ?_
  refine g_getr X (x := ad 27) 23 0 6 dX9_waysWithGift_15 (sgN (by decide)) rfl (by decide) rfl iw_X0 (by decide) rfl q_fl_X9_119 rfl ?_
  refine g_iload_n X 1 dX9_waysWithGift_18 rfl rfl ?_
  refine g_dup2 X dX9_waysWithGift_19 rfl rfl ?_
  obtain ⟨h20, hf⟩ := grd hf
  refine g_iald X 27 (n := 6) dX9_waysWithGift_20 (sgN (by decide)) rfl rfl h20 ?_
  refine g_iload_n X 2 dX9_waysWithGift_21 rfl rfl ?_
  refine g_ior X dX9_waysWithGift_22 ?_
  obtain ⟨h23, hf⟩ := grd hf
  refine g_iast X 27 (n := 6) dX9_waysWithGift_23 (sgN (by decide)) rfl rfl h23 ?_
  refine g_aload_n X 0 dX9_waysWithGift_24 rfl rfl ?_
  refine g_getr X (x := ad 50) 0 8 8 dX9_waysWithGift_25 (sgN (by decide)) rfl (by decide) rfl iw_X9 (by decide) rfl q_fl_X9_57 rfl ?_
  refine g_aload_n X 0 dX9_waysWithGift_28 rfl rfl ?_
  refine g_getr X (x := ad 23) 0 8 5 dX9_waysWithGift_29 (sgN (by decide)) rfl (by decide) rfl iw_X9 (by decide) rfl q_fl_X9_33 rfl ?_
  refine g_bipush X (v := 8) dX9_waysWithGift_32 (by decide) ?_
  refine g_iconst X (v := -1) dX9_waysWithGift_34 (by decide) ?_
  obtain ⟨r35, m35, h35, hf⟩ := bi_i hf
  refine g_eVI X 50 1 [.ref (ad 23), .int (8 : Int32), .int (-1 : Int32)] kV_X9_162 (c_X2_rounds (by unfold isF; decide) h35) dX9_waysWithGift_35 rfl rfl (sgN (by decide)) rfl (by decide) rfl rfl ⟨(Nat.le_of_ble_eq_true rfl), (Nat.le_of_ble_eq_true rfl)⟩ ⟨rfl, rfl⟩ ⟨(Nat.zero_le _), (Nat.zero_le _)⟩ (Nat.le_of_ble_eq_true rfl) ?_
  refine g_pop X dX9_waysWithGift_38 rfl ?_
  refine g_aload_n X 0 dX9_waysWithGift_39 rfl rfl ?_
  refine g_getr X (x := ad 23) 0 8 5 dX9_waysWithGift_40 (sgN (by decide)) rfl (by decide) rfl iw_X9 (by decide) rfl q_fl_X9_33 rfl ?_
  refine g_iconst X (v := -1) dX9_waysWithGift_43 (by decide) ?_
  obtain ⟨r44, m44, h44, hf⟩ := bi_i hf
  refine g_eVI X 23 0 [.int (-1 : Int32)] kV_X9_170 (c_X0_ways (by unfold isF; decide) h44) dX9_waysWithGift_44 rfl rfl (sgN (by decide)) rfl (by decide) rfl rfl ⟨(Nat.le_of_ble_eq_true rfl), (Nat.le_of_ble_eq_true rfl)⟩ ⟨rfl, rfl⟩ ⟨(Nat.zero_le _), (Nat.zero_le _)⟩ (Nat.le_of_ble_eq_true rfl) ?_
  obtain ⟨rfl, rfl⟩ := lf2 hf
  exact hret 47 _ dX9_waysWithGift_47 rfl

theorem kV_X9_191 : wcV RX9 191 RX9 yX9_waysWithGift cX9_waysWithGift 3 (some .int) 2 := ⟨q_ml_X9_191, q_im_yX9_waysWithGift, q_se_yX9_waysWithGift, q_in_X9, q_co_yX9_waysWithGift, by decide +kernel⟩

def X9_gift_81 (nt : Nat) (z : Nat → Nat) (k33 : Int32 → Int32 → Int32 → Int32 → Int32 → Mem → Option (Int32 × Mem)) (v1 : Int32) (v2 : Int32) (v3 : Int32) (v4 : Int32) (v5 : Int32) (m0 : Mem) : Option (Int32 × Mem) :=
  k33 v1 v2 v3 v4 (v5 + (1 : Int32)) m0
def X9_gift_33 (nt : Nat) (z : Nat → Nat) : Nat → Int32 → Int32 → Int32 → Int32 → Int32 → Mem → Option (Int32 × Mem)
  | 0, _, _, _, _, _, _ => none
  | n + 1, v1, v2, v3, v4, v5, m0 =>
    if (8 : Int32) ≤ v5 then
      if v2 = 0 then
        some (v3, m0)
      else
        some (v4, m0)
    else
      bi (X0_isKnown 5 v1 v5 m0) fun r47 m47 =>
      if r47 = 0 then
        bi (X9_waysWithGift nt z v1 ((1 : Int32) <<< (v5 &&& 31)) m47) fun r62 m62 =>
        if r62 ≤ v4 then
          X9_gift_81 nt z (X9_gift_33 nt z n) v1 v2 v3 v4 v5 m62
        else
          X9_gift_81 nt z (X9_gift_33 nt z n) v1 v2 v5 r62 v5 m62
      else
        X9_gift_81 nt z (X9_gift_33 nt z n) v1 v2 v3 v4 v5 m47
def X9_gift (nt : Nat) (z : Nat → Nat) (p0 : Int32) (p1 : Int32) (m0 : Mem) : Option (Int32 × Mem) :=
  bi (X9_isPerson p0 m0) fun r2 m2 =>
  if r2 = 0 then
    some ((-2 : Int32), m2)
  else
    if p1 < 0 then
      some ((-2 : Int32), m2)
    else
      if p1 ≤ (1 : Int32) then
        bi (X9_waysWithGift nt z p0 (0 : Int32) m2) fun r25 m25 =>
        X9_gift_33 nt z 10000 p0 p1 (-1 : Int32) r25 (0 : Int32) m25
      else
        some ((-2 : Int32), m2)
abbrev rmX9_gift : Room := { frames := 7, cells := 0, slots := 0, locals := 194 }
set_option maxRecDepth 100000 in
set_option maxHeartbeats 4000000 in
theorem w_X9_gift_81 {Γ : Ga} {b : Nat} {ad : Nat → Nat} {nt : Nat} {z : Nat → Nat} {k33 : Int32 → Int32 → Int32 → Int32 → Int32 → Mem → Option (Int32 × Mem)} {r9 : Int32} {m9 : Mem} (X : Cx Γ b cX9_gift 7 RX9 (some .int) rmX9_gift) (hret : ∀ (pc : Nat) (lv : List (Nat × Value)), decode cX9_gift pc = .ok (.ireturn, 1) → narrow .int (.int r9) = .int r9 → Go Γ b (sg ad nt z) 0 0 pc lv [.int r9] m9) (hk33 : ∀ (v1 : Int32) (v2 : Int32) (v3 : Int32) (v4 : Int32) (v5 : Int32) (m0 : Mem), k33 v1 v2 v3 v4 v5 m0 = some (r9, m9) → Go Γ b (sg ad nt z) 0 0 33 [(0, .ref (ad 0)), (1, .int v1), (2, .int v2), (3, .int v3), (4, .int v4), (5, .int v5)] [] m0) (v1 : Int32) (v2 : Int32) (v3 : Int32) (v4 : Int32) (v5 : Int32) (m0 : Mem) (hf : X9_gift_81 nt z k33 v1 v2 v3 v4 v5 m0 = some (r9, m9)) : Go Γ b (sg ad nt z) 0 0 81 [(0, .ref (ad 0)), (1, .int v1), (2, .int v2), (3, .int v3), (4, .int v4), (5, .int v5)] [] m0 := by
  refine g_iinc X 5 (v := v5 + (1 : Int32)) (lv' := [(5, .int (v5 + (1 : Int32))), (0, .ref (ad 0)), (1, .int v1), (2, .int v2), (3, .int v3), (4, .int v4)]) dX9_gift_81 rfl rfl (by decide) rfl ?_
  refine g_goto X (tgt := 33) dX9_gift_84 (by decide) ?_
  refine g_pick [1, 2, 3, 4, 5, 0] (lv' := [(0, .ref (ad 0)), (1, .int v1), (2, .int v2), (3, .int v3), (4, .int v4), (5, .int (v5 + (1 : Int32)))]) rfl ?_
  exact hk33 v1 v2 v3 v4 (v5 + (1 : Int32)) m0 hf
set_option maxRecDepth 100000 in
set_option maxHeartbeats 4000000 in
theorem w_X9_gift_33 {Γ : Ga} {b : Nat} {ad : Nat → Nat} {nt : Nat} {z : Nat → Nat} {r9 : Int32} {m9 : Mem} (X : Cx Γ b cX9_gift 7 RX9 (some .int) rmX9_gift) (hret : ∀ (pc : Nat) (lv : List (Nat × Value)), decode cX9_gift pc = .ok (.ireturn, 1) → narrow .int (.int r9) = .int r9 → Go Γ b (sg ad nt z) 0 0 pc lv [.int r9] m9) : ∀ (n : Nat) (v1 : Int32) (v2 : Int32) (v3 : Int32) (v4 : Int32) (v5 : Int32) (m0 : Mem), X9_gift_33 nt z n v1 v2 v3 v4 v5 m0 = some (r9, m9) → Go Γ b (sg ad nt z) 0 0 33 [(0, .ref (ad 0)), (1, .int v1), (2, .int v2), (3, .int v3), (4, .int v4), (5, .int v5)] [] m0 := by
  intro n
  induction n with
  | zero =>
    intro v1 v2 v3 v4 v5 m0 hf
    cases hf
  | succ n ih =>
    intro v1 v2 v3 v4 v5 m0 hf
    refine g_iload X 5 dX9_gift_33 rfl ?_
    refine g_bipush X (v := 8) dX9_gift_35 (by decide) ?_
    refine g_icmp_ge X (tgt := 87) dX9_gift_37 (by decide) (fun c37 => ?_) (fun c37 => ?_)
    · have hf := it c37 hf
      refine g_iload_n X 2 dX9_gift_87 rfl rfl ?_
      refine g_if_ne X (tgt := 95) dX9_gift_88 (by decide) (fun c88 => ?_) (fun c88 => ?_)
      · have hf := ie c88 hf
        refine g_iload X 4 dX9_gift_95 rfl ?_
        obtain ⟨rfl, rfl⟩ := lf2 hf
        exact hret 97 _ dX9_gift_97 rfl
      · have hf := it c88 hf
        refine g_iload_n X 3 dX9_gift_91 rfl rfl ?_
        refine g_goto X (tgt := 97) dX9_gift_92 (by decide) ?_
        obtain ⟨rfl, rfl⟩ := lf2 hf
        exact hret 97 _ dX9_gift_97 rfl
    · have hf := ie c37 hf
      refine g_aload_n X 0 dX9_gift_40 rfl rfl ?_
      refine g_getr X (x := ad 5) 0 8 1 dX9_gift_41 (sgN (by decide)) rfl (by decide) rfl iw_X9 (by decide) rfl q_fl_X9_19 rfl ?_
      refine g_iload_n X 1 dX9_gift_44 rfl rfl ?_
      refine g_iload X 5 dX9_gift_45 rfl ?_
      obtain ⟨r47, m47, h47, hf⟩ := bi_i hf
      refine g_eVI X 5 0 [.int v1, .int v5] kV_X9_183 (c_X0_isKnown (by unfold isF; decide) h47) dX9_gift_47 rfl rfl (sgN (by decide)) rfl (by decide) rfl rfl ⟨(Nat.le_of_ble_eq_true rfl), (Nat.le_of_ble_eq_true rfl)⟩ ⟨rfl, rfl⟩ ⟨(Nat.zero_le _), (Nat.zero_le _)⟩ (Nat.le_of_ble_eq_true rfl) ?_
      refine g_if_eq X (tgt := 56) dX9_gift_50 (by decide) (fun c50 => ?_) (fun c50 => ?_)
      · have hf := it c50 hf
        refine g_aload_n X 0 dX9_gift_56 rfl rfl ?_
        refine g_iload_n X 1 dX9_gift_57 rfl rfl ?_
        refine g_iconst X (v := 1) dX9_gift_58 (by decide) ?_
        refine g_iload X 5 dX9_gift_59 rfl ?_
        refine g_ishl X dX9_gift_61 ?_
        obtain ⟨r62, m62, h62, hf⟩ := bi_i hf
        refine g_eVI X 0 8 [.int v1, .int ((1 : Int32) <<< (v5 &&& 31))] kV_X9_191 (c_X9_waysWithGift h62) dX9_gift_62 rfl rfl (sgN (by decide)) rfl (by decide) rfl rfl ⟨(Nat.le_of_ble_eq_true rfl), (Nat.le_of_ble_eq_true rfl)⟩ ⟨rfl, rfl⟩ ⟨(Nat.zero_le _), (Nat.zero_le _)⟩ (Nat.le_of_ble_eq_true rfl) ?_
        refine g_istore X (lv' := [(6, .int r62), (0, .ref (ad 0)), (1, .int v1), (2, .int v2), (3, .int v3), (4, .int v4), (5, .int v5)]) dX9_gift_65 (by decide) rfl ?_
        refine g_iload X 0 dX9_gift_67 rfl ?_
        refine g_iload X 5 dX9_gift_69 rfl ?_
        refine g_icmp_le X (tgt := 81) dX9_gift_71 (by decide) (fun c71 => ?_) (fun c71 => ?_)
        · have hf := it c71 hf
          refine g_pick [1, 2, 3, 4, 5, 6] (lv' := [(0, .ref (ad 0)), (1, .int v1), (2, .int v2), (3, .int v3), (4, .int v4), (5, .int v5)]) rfl ?_
          exact w_X9_gift_81 X hret ih v1 v2 v3 v4 v5 m62 hf
        · have hf := ie c71 hf
          refine g_iload X 6 dX9_gift_74 rfl ?_
          refine g_istore_n X (lv' := [(3, .int v5), (6, .int r62), (0, .ref (ad 0)), (1, .int v1), (2, .int v2), (4, .int v4), (5, .int v5)]) dX9_gift_76 rfl (by decide) rfl ?_
          refine g_iload X 1 dX9_gift_77 rfl ?_
          refine g_istore X (lv' := [(4, .int r62), (3, .int v5), (6, .int r62), (0, .ref (ad 0)), (1, .int v1), (2, .int v2), (5, .int v5)]) dX9_gift_79 (by decide) rfl ?_
          refine g_pick [3, 4, 5, 1, 0, 6] (lv' := [(0, .ref (ad 0)), (1, .int v1), (2, .int v2), (3, .int v5), (4, .int r62), (5, .int v5)]) rfl ?_
          exact w_X9_gift_81 X hret ih v1 v2 v5 r62 v5 m62 hf
      · have hf := ie c50 hf
        refine g_goto X (tgt := 81) dX9_gift_53 (by decide) ?_
        exact w_X9_gift_81 X hret ih v1 v2 v3 v4 v5 m47 hf
set_option maxRecDepth 100000 in
set_option maxHeartbeats 4000000 in
theorem c_X9_gift {l : Launch} {G : GG} {b : Nat} {ad : Nat → Nat} {nt : Nat} {z : Nat → Nat} {p0 : Int32} {p1 : Int32} {m0 : Mem} {r9 : Int32} {m9 : Mem} (hf : X9_gift nt z p0 p1 m0 = some (r9, m9)) : MtI l yX9_gift cX9_gift 7 (some .int) rmX9_gift G b (sg ad nt z) m0 [.ref (ad 0), .int p0, .int p1] (pEI r9 (sg ad nt z) m9) := by
  refine mtI_of (by decide) (Nat.le_of_ble_eq_true rfl) .int rfl (fun Γ hG X hnm hr => ?_)
  have hret : ∀ (pc : Nat) (lv : List (Nat × Value)), decode cX9_gift pc = .ok (.ireturn, 1) → narrow .int (.int r9) = .int r9 → Go Γ b (sg ad nt z) 0 0 pc lv [.int r9] m9 := fun pc lv d hn => hr pc lv _ _ _ d ⟨rfl, rfl, rfl⟩ hn
  show Go Γ b (sg ad nt z) 0 0 0 [(0, .ref (ad 0)), (1, .int p0), (2, .int p1)] [] m0
  refine g_aload_n X 0 dX9_gift_0 rfl rfl ?_
  refine g_iload_n X 1 dX9_gift_1 rfl rfl ?_
  obtain ⟨r2, m2, h2, hf⟩ := bi_i hf
  refine g_eVI X 0 8 [.int p0] kV_X9_86 (c_X9_isPerson h2) dX9_gift_2 rfl rfl (sgN (by decide)) rfl (by decide) rfl rfl ⟨(Nat.le_of_ble_eq_true rfl), (Nat.le_of_ble_eq_true rfl)⟩ ⟨rfl, rfl⟩ ⟨(Nat.zero_le _), (Nat.zero_le _)⟩ (Nat.le_of_ble_eq_true rfl) ?_
  refine g_if_eq X (tgt := 17) dX9_gift_5 (by decide) (fun c5 => ?_) (fun c5 => ?_)
  · have hf := it c5 hf
    refine g_bipush X (v := -2) dX9_gift_17 (by decide) ?_
    obtain ⟨rfl, rfl⟩ := lf2 hf
    exact hret 19 _ dX9_gift_19 rfl
  · have hf := ie c5 hf
    refine g_iload_n X 2 dX9_gift_8 rfl rfl ?_
    refine g_if_lt X (tgt := 17) dX9_gift_9 (by decide) (fun c9 => ?_) (fun c9 => ?_)
    · have hf := it c9 hf
      refine g_bipush X (v := -2) dX9_gift_17 (by decide) ?_
      obtain ⟨rfl, rfl⟩ := lf2 hf
      exact hret 19 _ dX9_gift_19 rfl
    · have hf := ie c9 hf
      refine g_iload_n X 2 dX9_gift_12 rfl rfl ?_
      refine g_iconst X (v := 1) dX9_gift_13 (by decide) ?_
      refine g_icmp_le X (tgt := 20) dX9_gift_14 (by decide) (fun c14 => ?_) (fun c14 => ?_)
      · have hf := it c14 hf
        refine g_iconst X (v := -1) dX9_gift_20 (by decide) ?_
        refine g_istore_n X (lv' := [(3, .int (-1 : Int32)), (0, .ref (ad 0)), (1, .int p0), (2, .int p1)]) dX9_gift_21 rfl (by decide) rfl ?_
        refine g_aload_n X 1 dX9_gift_22 rfl rfl ?_
        refine g_iload_n X 2 dX9_gift_23 rfl rfl ?_
        refine g_iconst X (v := 0) dX9_gift_24 (by decide) ?_
        obtain ⟨r25, m25, h25, hf⟩ := bi_i hf
        refine g_eVI X 0 8 [.int p0, .int (0 : Int32)] kV_X9_191 (c_X9_waysWithGift h25) dX9_gift_25 rfl rfl (sgN (by decide)) rfl (by decide) rfl rfl ⟨(Nat.le_of_ble_eq_true rfl), (Nat.le_of_ble_eq_true rfl)⟩ ⟨rfl, rfl⟩ ⟨(Nat.zero_le _), (Nat.zero_le _)⟩ (Nat.le_of_ble_eq_true rfl) ?_
        refine g_istore X (lv' := [(4, .int r25), (3, .int (-1 : Int32)), (0, .ref (ad 0)), (1, .int p0), (2, .int p1)]) dX9_gift_28 (by decide) rfl ?_
        refine g_iconst X (v := 0) dX9_gift_30 (by decide) ?_
        refine g_istore X (lv' := [(5, .int (0 : Int32)), (4, .int r25), (3, .int (-1 : Int32)), (0, .ref (ad 0)), (1, .int p0), (2, .int p1)]) dX9_gift_31 (by decide) rfl ?_
        refine g_pick [3, 4, 5, 2, 1, 0] (lv' := [(0, .ref (ad 0)), (1, .int p0), (2, .int p1), (3, .int (-1 : Int32)), (4, .int r25), (5, .int (0 : Int32))]) rfl ?_
        exact w_X9_gift_33 X hret 10000 p0 p1 (-1 : Int32) r25 (0 : Int32) m25 hf
      · have hf := ie c14 hf
        refine g_bipush X (v := -2) dX9_gift_17 (by decide) ?_
        obtain ⟨rfl, rfl⟩ := lf2 hf
        exact hret 19 _ dX9_gift_19 rfl

def X9_missed_96 (nt : Nat) (z : Nat → Nat) (k19 : Int32 → Int32 → Int32 → Int32 → Mem → Option (Int32 × Mem)) (v1 : Int32) (v2 : Int32) (v3 : Int32) (v4 : Int32) (m0 : Mem) : Option (Int32 × Mem) :=
  k19 v1 v2 v3 (v4 + (1 : Int32)) m0
def X9_missed_90 (nt : Nat) (z : Nat → Nat) (k19 : Int32 → Int32 → Int32 → Int32 → Mem → Option (Int32 × Mem)) (v1 : Int32) (v4 : Int32) (v5 : Int32) (m0 : Mem) : Option (Int32 × Mem) :=
  X9_missed_96 nt z k19 v1 v4 v5 v4 m0
def X9_missed_19 (nt : Nat) (z : Nat → Nat) : Nat → Int32 → Int32 → Int32 → Int32 → Mem → Option (Int32 × Mem)
  | 0, _, _, _, _, _ => none
  | n + 1, v1, v2, v3, v4, m0 =>
    if (m0.1 5 0) ≤ v4 then
      if v1 = 0 then
        some (v2, m0)
      else
        some (v3, m0)
    else
      bv (X0_become 23 5 m0) fun m39 =>
      bi (X2_rounds nt z 23 (8 : Int32) v4 m39) fun r54 m54 =>
      bi (X0_ways 23 v4 m54) fun r64 m64 =>
      bi (X0_ways 5 v4 m64) fun r73 m73 =>
      if v2 = (-1 : Int32) then
        X9_missed_90 nt z (X9_missed_19 nt z n) v1 v4 (r64 - r73) m73
      else
        if v3 ≤ (r64 - r73) then
          X9_missed_96 nt z (X9_missed_19 nt z n) v1 v2 v3 v4 m73
        else
          X9_missed_90 nt z (X9_missed_19 nt z n) v1 v4 (r64 - r73) m73
def X9_missed (nt : Nat) (z : Nat → Nat) (p0 : Int32) (m0 : Mem) : Option (Int32 × Mem) :=
  if p0 < 0 then
    some ((-2 : Int32), m0)
  else
    if p0 ≤ (1 : Int32) then
      X9_missed_19 nt z 10000 p0 (-1 : Int32) (-1 : Int32) (0 : Int32) m0
    else
      some ((-2 : Int32), m0)
abbrev rmX9_missed : Room := { frames := 6, cells := 0, slots := 0, locals := 172 }
set_option maxRecDepth 100000 in
set_option maxHeartbeats 4000000 in
theorem w_X9_missed_96 {Γ : Ga} {b : Nat} {ad : Nat → Nat} {nt : Nat} {z : Nat → Nat} {k19 : Int32 → Int32 → Int32 → Int32 → Mem → Option (Int32 × Mem)} {r9 : Int32} {m9 : Mem} (X : Cx Γ b cX9_missed 6 RX9 (some .int) rmX9_missed) (hret : ∀ (pc : Nat) (lv : List (Nat × Value)), decode cX9_missed pc = .ok (.ireturn, 1) → narrow .int (.int r9) = .int r9 → Go Γ b (sg ad nt z) 0 0 pc lv [.int r9] m9) (hk19 : ∀ (v1 : Int32) (v2 : Int32) (v3 : Int32) (v4 : Int32) (m0 : Mem), k19 v1 v2 v3 v4 m0 = some (r9, m9) → Go Γ b (sg ad nt z) 0 0 19 [(0, .ref (ad 0)), (1, .int v1), (2, .int v2), (3, .int v3), (4, .int v4)] [] m0) (v1 : Int32) (v2 : Int32) (v3 : Int32) (v4 : Int32) (m0 : Mem) (hf : X9_missed_96 nt z k19 v1 v2 v3 v4 m0 = some (r9, m9)) : Go Γ b (sg ad nt z) 0 0 96 [(0, .ref (ad 0)), (1, .int v1), (2, .int v2), (3, .int v3), (4, .int v4)] [] m0 := by
  refine g_iinc X 4 (v := v4 + (1 : Int32)) (lv' := [(4, .int (v4 + (1 : Int32))), (0, .ref (ad 0)), (1, .int v1), (2, .int v2), (3, .int v3)]) dX9_missed_96 rfl rfl (by decide) rfl ?_
  refine g_goto X (tgt := 19) dX9_missed_99 (by decide) ?_
  refine g_pick [1, 2, 3, 4, 0] (lv' := [(0, .ref (ad 0)), (1, .int v1), (2, .int v2), (3, .int v3), (4, .int (v4 + (1 : Int32)))]) rfl ?_
  exact hk19 v1 v2 v3 (v4 + (1 : Int32)) m0 hf
set_option maxRecDepth 100000 in
set_option maxHeartbeats 4000000 in
theorem w_X9_missed_90 {Γ : Ga} {b : Nat} {ad : Nat → Nat} {nt : Nat} {z : Nat → Nat} {k19 : Int32 → Int32 → Int32 → Int32 → Mem → Option (Int32 × Mem)} {r9 : Int32} {m9 : Mem} (X : Cx Γ b cX9_missed 6 RX9 (some .int) rmX9_missed) (hret : ∀ (pc : Nat) (lv : List (Nat × Value)), decode cX9_missed pc = .ok (.ireturn, 1) → narrow .int (.int r9) = .int r9 → Go Γ b (sg ad nt z) 0 0 pc lv [.int r9] m9) (hk19 : ∀ (v1 : Int32) (v2 : Int32) (v3 : Int32) (v4 : Int32) (m0 : Mem), k19 v1 v2 v3 v4 m0 = some (r9, m9) → Go Γ b (sg ad nt z) 0 0 19 [(0, .ref (ad 0)), (1, .int v1), (2, .int v2), (3, .int v3), (4, .int v4)] [] m0) (v1 : Int32) (v4 : Int32) (v5 : Int32) (m0 : Mem) (hf : X9_missed_90 nt z k19 v1 v4 v5 m0 = some (r9, m9)) : Go Γ b (sg ad nt z) 0 0 90 [(0, .ref (ad 0)), (1, .int v1), (4, .int v4), (5, .int v5)] [] m0 := by
  refine g_iload X 2 dX9_missed_90 rfl ?_
  refine g_istore_n X (lv' := [(2, .int v4), (0, .ref (ad 0)), (1, .int v1), (4, .int v4), (5, .int v5)]) dX9_missed_92 rfl (by decide) rfl ?_
  refine g_iload X 4 dX9_missed_93 rfl ?_
  refine g_istore_n X (lv' := [(3, .int v5), (2, .int v4), (0, .ref (ad 0)), (1, .int v1), (4, .int v4), (5, .int v5)]) dX9_missed_95 rfl (by decide) rfl ?_
  refine g_pick [2, 3, 1, 0, 4] (lv' := [(0, .ref (ad 0)), (1, .int v1), (2, .int v4), (3, .int v5), (4, .int v4)]) rfl ?_
  exact w_X9_missed_96 X hret hk19 v1 v4 v5 v4 m0 hf
set_option maxRecDepth 100000 in
set_option maxHeartbeats 4000000 in
theorem w_X9_missed_19 {Γ : Ga} {b : Nat} {ad : Nat → Nat} {nt : Nat} {z : Nat → Nat} {r9 : Int32} {m9 : Mem} (X : Cx Γ b cX9_missed 6 RX9 (some .int) rmX9_missed) (hret : ∀ (pc : Nat) (lv : List (Nat × Value)), decode cX9_missed pc = .ok (.ireturn, 1) → narrow .int (.int r9) = .int r9 → Go Γ b (sg ad nt z) 0 0 pc lv [.int r9] m9) : ∀ (n : Nat) (v1 : Int32) (v2 : Int32) (v3 : Int32) (v4 : Int32) (m0 : Mem), X9_missed_19 nt z n v1 v2 v3 v4 m0 = some (r9, m9) → Go Γ b (sg ad nt z) 0 0 19 [(0, .ref (ad 0)), (1, .int v1), (2, .int v2), (3, .int v3), (4, .int v4)] [] m0 := by
  intro n
  induction n with
  | zero =>
    intro v1 v2 v3 v4 m0 hf
    cases hf
  | succ n ih =>
    intro v1 v2 v3 v4 m0 hf
    refine g_iload X 4 dX9_missed_19 rfl ?_
    refine g_aload_n X 0 dX9_missed_21 rfl rfl ?_
    refine g_getr X (x := ad 5) 0 8 1 dX9_missed_22 (sgN (by decide)) rfl (by decide) rfl iw_X9 (by decide) rfl q_fl_X9_19 rfl ?_
    refine g_getI X 5 0 0 dX9_missed_25 (sgN (by decide)) rfl (by decide) rfl iw_X0 (by decide) rfl q_fl_X9_165 ?_
    refine g_icmp_ge X (tgt := 102) dX9_missed_28 (by decide) (fun c28 => ?_) (fun c28 => ?_)
    · have hf := it c28 hf
      refine g_iload_n X 1 dX9_missed_102 rfl rfl ?_
      refine g_if_ne X (tgt := 110) dX9_missed_103 (by decide) (fun c103 => ?_) (fun c103 => ?_)
      · have hf := ie c103 hf
        refine g_iload_n X 3 dX9_missed_110 rfl rfl ?_
        obtain ⟨rfl, rfl⟩ := lf2 hf
        exact hret 111 _ dX9_missed_111 rfl
      · have hf := it c103 hf
        refine g_iload_n X 2 dX9_missed_106 rfl rfl ?_
        refine g_goto X (tgt := 111) dX9_missed_107 (by decide) ?_
        obtain ⟨rfl, rfl⟩ := lf2 hf
        exact hret 111 _ dX9_missed_111 rfl
    · have hf := ie c28 hf
      refine g_aload_n X 0 dX9_missed_31 rfl rfl ?_
      refine g_getr X (x := ad 23) 0 8 5 dX9_missed_32 (sgN (by decide)) rfl (by decide) rfl iw_X9 (by decide) rfl q_fl_X9_33 rfl ?_
      refine g_aload_n X 0 dX9_missed_35 rfl rfl ?_
      refine g_getr X (x := ad 5) 0 8 1 dX9_missed_36 (sgN (by decide)) rfl (by decide) rfl iw_X9 (by decide) rfl q_fl_X9_19 rfl ?_
      obtain ⟨m39, h39, hf⟩ := bv_i hf
      refine g_eVV X 23 0 [.ref (ad 5)] kV_X9_166 (c_X0_become (by unfold isF; decide) (by unfold isF; decide) h39) dX9_missed_39 rfl rfl (sgN (by decide)) rfl (by decide) rfl rfl ⟨(Nat.le_of_ble_eq_true rfl), (Nat.le_of_ble_eq_true rfl)⟩ ⟨rfl, rfl⟩ ⟨(Nat.zero_le _), (Nat.zero_le _)⟩ (Nat.le_of_ble_eq_true rfl) ?_
      refine g_aload_n X 0 dX9_missed_42 rfl rfl ?_
      refine g_getr X (x := ad 50) 0 8 8 dX9_missed_43 (sgN (by decide)) rfl (by decide) rfl iw_X9 (by decide) rfl q_fl_X9_57 rfl ?_
      refine g_aload_n X 0 dX9_missed_46 rfl rfl ?_
      refine g_getr X (x := ad 23) 0 8 5 dX9_missed_47 (sgN (by decide)) rfl (by decide) rfl iw_X9 (by decide) rfl q_fl_X9_33 rfl ?_
      refine g_bipush X (v := 8) dX9_missed_50 (by decide) ?_
      refine g_iload X 4 dX9_missed_52 rfl ?_
      obtain ⟨r54, m54, h54, hf⟩ := bi_i hf
      refine g_eVI X 50 1 [.ref (ad 23), .int (8 : Int32), .int v4] kV_X9_162 (c_X2_rounds (by unfold isF; decide) h54) dX9_missed_54 rfl rfl (sgN (by decide)) rfl (by decide) rfl rfl ⟨(Nat.le_of_ble_eq_true rfl), (Nat.le_of_ble_eq_true rfl)⟩ ⟨rfl, rfl⟩ ⟨(Nat.zero_le _), (Nat.zero_le _)⟩ (Nat.le_of_ble_eq_true rfl) ?_
      refine g_pop X dX9_missed_57 rfl ?_
      refine g_aload_n X 0 dX9_missed_58 rfl rfl ?_
      refine g_getr X (x := ad 23) 0 8 5 dX9_missed_59 (sgN (by decide)) rfl (by decide) rfl iw_X9 (by decide) rfl q_fl_X9_33 rfl ?_
      refine g_iload X 4 dX9_missed_62 rfl ?_
      obtain ⟨r64, m64, h64, hf⟩ := bi_i hf
      refine g_eVI X 23 0 [.int v4] kV_X9_170 (c_X0_ways (by unfold isF; decide) h64) dX9_missed_64 rfl rfl (sgN (by decide)) rfl (by decide) rfl rfl ⟨(Nat.le_of_ble_eq_true rfl), (Nat.le_of_ble_eq_true rfl)⟩ ⟨rfl, rfl⟩ ⟨(Nat.zero_le _), (Nat.zero_le _)⟩ (Nat.le_of_ble_eq_true rfl) ?_
      refine g_aload_n X 0 dX9_missed_67 rfl rfl ?_
      refine g_getr X (x := ad 5) 0 8 1 dX9_missed_68 (sgN (by decide)) rfl (by decide) rfl iw_X9 (by decide) rfl q_fl_X9_19 rfl ?_
      refine g_iload X 4 dX9_missed_71 rfl ?_
      obtain ⟨r73, m73, h73, hf⟩ := bi_i hf
      refine g_eVI X 5 0 [.int v4] kV_X9_170 (c_X0_ways (by unfold isF; decide) h73) dX9_missed_73 rfl rfl (sgN (by decide)) rfl (by decide) rfl rfl ⟨(Nat.le_of_ble_eq_true rfl), (Nat.le_of_ble_eq_true rfl)⟩ ⟨rfl, rfl⟩ ⟨(Nat.zero_le _), (Nat.zero_le _)⟩ (Nat.le_of_ble_eq_true rfl) ?_
      refine g_isub X dX9_missed_76 ?_
      refine g_istore X (lv' := [(5, .int (r64 - r73)), (0, .ref (ad 0)), (1, .int v1), (2, .int v2), (3, .int v3), (4, .int v4)]) dX9_missed_77 (by decide) rfl ?_
      refine g_iload_n X 3 dX9_missed_79 rfl rfl ?_
      refine g_iconst X (v := -1) dX9_missed_80 (by decide) ?_
      refine g_icmp_eq X (tgt := 90) dX9_missed_81 (by decide) (fun c81 => ?_) (fun c81 => ?_)
      · have hf := it c81 hf
        refine g_pick [1, 2, 5, 0] (lv' := [(0, .ref (ad 0)), (1, .int v1), (4, .int v4), (5, .int (r64 - r73))]) rfl ?_
        exact w_X9_missed_90 X hret ih v1 v4 (r64 - r73) m73 hf
      · have hf := ie c81 hf
        refine g_iload X 0 dX9_missed_84 rfl ?_
        refine g_iload_n X 4 dX9_missed_86 rfl rfl ?_
        refine g_icmp_ge X (tgt := 96) dX9_missed_87 (by decide) (fun c87 => ?_) (fun c87 => ?_)
        · have hf := it c87 hf
          refine g_pick [1, 2, 3, 4, 5] (lv' := [(0, .ref (ad 0)), (1, .int v1), (2, .int v2), (3, .int v3), (4, .int v4)]) rfl ?_
          exact w_X9_missed_96 X hret ih v1 v2 v3 v4 m73 hf
        · have hf := ie c87 hf
          refine g_pick [1, 2, 5, 0] (lv' := [(0, .ref (ad 0)), (1, .int v1), (4, .int v4), (5, .int (r64 - r73))]) rfl ?_
          exact w_X9_missed_90 X hret ih v1 v4 (r64 - r73) m73 hf
set_option maxRecDepth 100000 in
set_option maxHeartbeats 4000000 in
theorem c_X9_missed {l : Launch} {G : GG} {b : Nat} {ad : Nat → Nat} {nt : Nat} {z : Nat → Nat} {p0 : Int32} {m0 : Mem} {r9 : Int32} {m9 : Mem} (hf : X9_missed nt z p0 m0 = some (r9, m9)) : MtI l yX9_missed cX9_missed 6 (some .int) rmX9_missed G b (sg ad nt z) m0 [.ref (ad 0), .int p0] (pEI r9 (sg ad nt z) m9) := by
  refine mtI_of (by decide) (Nat.le_of_ble_eq_true rfl) .int rfl (fun Γ hG X hnm hr => ?_)
  have hret : ∀ (pc : Nat) (lv : List (Nat × Value)), decode cX9_missed pc = .ok (.ireturn, 1) → narrow .int (.int r9) = .int r9 → Go Γ b (sg ad nt z) 0 0 pc lv [.int r9] m9 := fun pc lv d hn => hr pc lv _ _ _ d ⟨rfl, rfl, rfl⟩ hn
  show Go Γ b (sg ad nt z) 0 0 0 [(0, .ref (ad 0)), (1, .int p0)] [] m0
  refine g_iload_n X 1 dX9_missed_0 rfl rfl ?_
  refine g_if_lt X (tgt := 9) dX9_missed_1 (by decide) (fun c1 => ?_) (fun c1 => ?_)
  · have hf := it c1 hf
    refine g_bipush X (v := -2) dX9_missed_9 (by decide) ?_
    obtain ⟨rfl, rfl⟩ := lf2 hf
    exact hret 11 _ dX9_missed_11 rfl
  · have hf := ie c1 hf
    refine g_iload_n X 1 dX9_missed_4 rfl rfl ?_
    refine g_iconst X (v := 1) dX9_missed_5 (by decide) ?_
    refine g_icmp_le X (tgt := 12) dX9_missed_6 (by decide) (fun c6 => ?_) (fun c6 => ?_)
    · have hf := it c6 hf
      refine g_iconst X (v := -1) dX9_missed_12 (by decide) ?_
      refine g_istore_n X (lv' := [(2, .int (-1 : Int32)), (0, .ref (ad 0)), (1, .int p0)]) dX9_missed_13 rfl (by decide) rfl ?_
      refine g_iconst X (v := -1) dX9_missed_14 (by decide) ?_
      refine g_istore_n X (lv' := [(3, .int (-1 : Int32)), (2, .int (-1 : Int32)), (0, .ref (ad 0)), (1, .int p0)]) dX9_missed_15 rfl (by decide) rfl ?_
      refine g_iconst X (v := 0) dX9_missed_16 (by decide) ?_
      refine g_istore X (lv' := [(4, .int (0 : Int32)), (3, .int (-1 : Int32)), (2, .int (-1 : Int32)), (0, .ref (ad 0)), (1, .int p0)]) dX9_missed_17 (by decide) rfl ?_
      refine g_pick [3, 4, 2, 1, 0] (lv' := [(0, .ref (ad 0)), (1, .int p0), (2, .int (-1 : Int32)), (3, .int (-1 : Int32)), (4, .int (0 : Int32))]) rfl ?_
      exact w_X9_missed_19 X hret 10000 p0 (-1 : Int32) (-1 : Int32) (0 : Int32) m0 hf
    · have hf := ie c6 hf
      refine g_bipush X (v := -2) dX9_missed_9 (by decide) ?_
      obtain ⟨rfl, rfl⟩ := lf2 hf
      exact hret 11 _ dX9_missed_11 rfl

theorem kV_X9_194 : wcV RX9 194 RX4 yX4_walked cX4_walked 4 (some .int) 3 := ⟨q_ml_X9_194, q_im_yX4_walked, q_se_yX4_walked, q_in_X4, q_co_yX4_walked, by decide +kernel⟩

def X9_walk (p0 : Int32) (p1 : Int32) (p2 : Int32) (m0 : Mem) : Option (Int32 × Mem) :=
  bi (X9_isPerson p0 m0) fun r2 m2 =>
  if r2 = 0 then
    some ((-2 : Int32), m2)
  else
    bi (X9_isPlace p1 m2) fun r9 m9 =>
    if r9 = 0 then
      some ((-2 : Int32), m9)
    else
      bi (X9_isPlace p2 m9) fun r16 m16 =>
      if r16 = 0 then
        some ((-2 : Int32), m16)
      else
        if inn p0 6 then
        bi (X4_walked p1 p2 (m16.1 9 p0.toNatClampNeg) m16) fun r40 m40 =>
        some (r40, m40)
        else none
abbrev rmX9_walk : Room := { frames := 2, cells := 0, slots := 0, locals := 52 }

set_option maxRecDepth 100000 in
set_option maxHeartbeats 4000000 in
theorem c_X9_walk {l : Launch} {G : GG} {b : Nat} {ad : Nat → Nat} {nt : Nat} {z : Nat → Nat} {p0 : Int32} {p1 : Int32} {p2 : Int32} {m0 : Mem} {r9 : Int32} {m9 : Mem} (hf : X9_walk p0 p1 p2 m0 = some (r9, m9)) : MtI l yX9_walk cX9_walk 4 (some .int) rmX9_walk G b (sg ad nt z) m0 [.ref (ad 0), .int p0, .int p1, .int p2] (pEI r9 (sg ad nt z) m9) := by
  refine mtI_of (by decide) (Nat.le_of_ble_eq_true rfl) .int rfl (fun Γ hG X hnm hr => ?_)
  have hret : ∀ (pc : Nat) (lv : List (Nat × Value)), decode cX9_walk pc = .ok (.ireturn, 1) → narrow .int (.int r9) = .int r9 → Go Γ b (sg ad nt z) 0 0 pc lv [.int r9] m9 := fun pc lv d hn => hr pc lv _ _ _ d ⟨rfl, rfl, rfl⟩ hn
  show Go Γ b (sg ad nt z) 0 0 0 [(0, .ref (ad 0)), (1, .int p0), (2, .int p1), (3, .int p2)] [] m0
  refine g_aload_n X 0 dX9_walk_0 rfl rfl ?_
  refine g_iload_n X 1 dX9_walk_1 rfl rfl ?_
  obtain ⟨r2, m2, h2, hf⟩ := bi_i hf
  refine g_eVI X 0 8 [.int p0] kV_X9_86 (c_X9_isPerson h2) dX9_walk_2 rfl rfl (sgN (by decide)) rfl (by decide) rfl rfl ⟨(Nat.le_of_ble_eq_true rfl), (Nat.le_of_ble_eq_true rfl)⟩ ⟨rfl, rfl⟩ ⟨(Nat.zero_le _), (Nat.zero_le _)⟩ (Nat.le_of_ble_eq_true rfl) ?_
  refine g_if_eq X (tgt := 22) dX9_walk_5 (by decide) (fun c5 => ?_) (fun c5 => ?_)
  · have hf := it c5 hf
    refine g_bipush X (v := -2) dX9_walk_22 (by decide) ?_
    obtain ⟨rfl, rfl⟩ := lf2 hf
    exact hret 24 _ dX9_walk_24 rfl
  · have hf := ie c5 hf
    refine g_iload_n X 2 dX9_walk_8 rfl rfl ?_
    obtain ⟨r9, m9, h9, hf⟩ := bi_i hf
    refine g_eSI X [.int p1] kS_X9_98 (c_X9_isPlace h9) dX9_walk_9 rfl rfl ⟨(Nat.le_of_ble_eq_true rfl), (Nat.le_of_ble_eq_true rfl)⟩ ⟨rfl, rfl⟩ ⟨(Nat.zero_le _), (Nat.zero_le _)⟩ (Nat.le_of_ble_eq_true rfl) ?_
    refine g_if_eq X (tgt := 22) dX9_walk_12 (by decide) (fun c12 => ?_) (fun c12 => ?_)
    · have hf := it c12 hf
      refine g_bipush X (v := -2) dX9_walk_22 (by decide) ?_
      obtain ⟨rfl, rfl⟩ := lf2 hf
      exact hret 24 _ dX9_walk_24 rfl
    · have hf := ie c12 hf
      refine g_iload_n X 3 dX9_walk_15 rfl rfl ?_
      obtain ⟨r16, m16, h16, hf⟩ := bi_i hf
      refine g_eSI X [.int p2] kS_X9_98 (c_X9_isPlace h16) dX9_walk_16 rfl rfl ⟨(Nat.le_of_ble_eq_true rfl), (Nat.le_of_ble_eq_true rfl)⟩ ⟨rfl, rfl⟩ ⟨(Nat.zero_le _), (Nat.zero_le _)⟩ (Nat.le_of_ble_eq_true rfl) ?_
      refine g_if_ne X (tgt := 25) dX9_walk_19 (by decide) (fun c19 => ?_) (fun c19 => ?_)
      · have hf := ie c19 hf
        refine g_aload_n X 0 dX9_walk_25 rfl rfl ?_
        refine g_getr X (x := ad 1) 0 8 0 dX9_walk_26 (sgN (by decide)) rfl (by decide) rfl iw_X9 (by decide) rfl q_fl_X9_10 rfl ?_
        refine g_iload_n X 2 dX9_walk_29 rfl rfl ?_
        refine g_iload_n X 3 dX9_walk_30 rfl rfl ?_
        refine g_aload_n X 0 dX9_walk_31 rfl rfl ?_
        refine g_getr X (x := ad 5) 0 8 1 dX9_walk_32 (sgN (by decide)) rfl (by decide) rfl iw_X9 (by decide) rfl q_fl_X9_19 rfl ?_
        refine g_getr X (x := ad 9) 5 0 6 dX9_walk_35 (sgN (by decide)) rfl (by decide) rfl iw_X0 (by decide) rfl q_fl_X9_119 rfl ?_
        refine g_iload_n X 1 dX9_walk_38 rfl rfl ?_
        obtain ⟨h39, hf⟩ := grd hf
        refine g_iald X 9 (n := 6) dX9_walk_39 (sgN (by decide)) rfl rfl h39 ?_
        obtain ⟨r40, m40, h40, hf⟩ := bi_i hf
        refine g_eVI X 1 3 [.int p1, .int p2, .int (m16.1 9 p0.toNatClampNeg)] kV_X9_194 (c_X4_walked h40) dX9_walk_40 rfl rfl (sgN (by decide)) rfl (by decide) rfl rfl ⟨(Nat.le_of_ble_eq_true rfl), (Nat.le_of_ble_eq_true rfl)⟩ ⟨rfl, rfl⟩ ⟨(Nat.zero_le _), (Nat.zero_le _)⟩ (Nat.le_of_ble_eq_true rfl) ?_
        obtain ⟨rfl, rfl⟩ := lf2 hf
        exact hret 43 _ dX9_walk_43 rfl
      · have hf := it c19 hf
        refine g_bipush X (v := -2) dX9_walk_22 (by decide) ?_
        obtain ⟨rfl, rfl⟩ := lf2 hf
        exact hret 24 _ dX9_walk_24 rfl

def X9_sheetOf (p0 : Int32) (m0 : Mem) : Option (Option Nat × Mem) :=
  if p0 < 0 then
    some (none, m0)
  else
    if (4 : Int32) ≤ p0 then
      some (none, m0)
    else
      if inn p0 4 then
      wi (55 + 2 * p0.toNatClampNeg) fun w14 =>
      some (some w14, m0)
      else none
abbrev rmX9_sheetOf : Room := { frames := 0, cells := 0, slots := 0, locals := 0 }

set_option maxRecDepth 100000 in
set_option maxHeartbeats 4000000 in
theorem c_X9_sheetOf {l : Launch} {G : GG} {b : Nat} {ad : Nat → Nat} {nt : Nat} {z : Nat → Nat} {p0 : Int32} {m0 : Mem} {r9 : Option Nat} {m9 : Mem} (hf : X9_sheetOf p0 m0 = some (r9, m9)) : MtQ l yX9_sheetOf cX9_sheetOf 2 (some (.object "PaidInKind$Sheet")) rmX9_sheetOf G b (sg ad nt z) m0 [.ref (ad 0), .int p0] (pEQ (r9.map ad) (sg ad nt z) m9) := by
  refine mtQ_of (by decide) (Nat.le_of_ble_eq_true rfl) ((.object "PaidInKind$Sheet")) rfl (by first | exact Or.inl ⟨_, rfl⟩ | exact Or.inr ⟨_, rfl⟩) (fun Γ hG X hnm hr => ?_)
  have hret : ∀ (pc : Nat) (lv : List (Nat × Value)), decode cX9_sheetOf pc = .ok (.areturn, 1) → Go Γ b (sg ad nt z) 0 0 pc lv [va_rf (r9.map ad)] m9 := fun pc lv d => hr pc lv _ _ _ d ⟨rfl, rfl, rfl⟩
  show Go Γ b (sg ad nt z) 0 0 0 [(0, .ref (ad 0)), (1, .int p0)] [] m0
  refine g_iload_n X 1 dX9_sheetOf_0 rfl rfl ?_
  refine g_if_lt X (tgt := 18) dX9_sheetOf_1 (by decide) (fun c1 => ?_) (fun c1 => ?_)
  · have hf := it c1 hf
    refine g_null X dX9_sheetOf_18 ?_
    obtain ⟨rfl, rfl⟩ := lf2 hf
    exact hret 19 _ dX9_sheetOf_19
  · have hf := ie c1 hf
    refine g_iload_n X 1 dX9_sheetOf_4 rfl rfl ?_
    refine g_iconst X (v := 4) dX9_sheetOf_5 (by decide) ?_
    refine g_icmp_ge X (tgt := 18) dX9_sheetOf_6 (by decide) (fun c6 => ?_) (fun c6 => ?_)
    · have hf := it c6 hf
      refine g_null X dX9_sheetOf_18 ?_
      obtain ⟨rfl, rfl⟩ := lf2 hf
      exact hret 19 _ dX9_sheetOf_19
    · have hf := ie c6 hf
      refine g_aload_n X 0 dX9_sheetOf_9 rfl rfl ?_
      refine g_getr X (x := ad 51) 0 8 9 dX9_sheetOf_10 (sgN (by decide)) rfl (by decide) rfl iw_X9 (by decide) rfl q_fl_X9_63 rfl ?_
      refine g_iload_n X 1 dX9_sheetOf_13 rfl rfl ?_
      obtain ⟨h14, hf⟩ := grd hf
      obtain ⟨w14, ew14, hf⟩ := wi_i hf
      have fw14 : isS w14 := by rw [ew14]; exact S_is (inn_lt h14)
      refine g_aaldr12 X 51 (n := 4) (x := ad w14) dX9_sheetOf_14 (sgN (by decide)) rfl rfl h14 (by rw [ew14]; exact S_at (inn_lt h14)) ?_
      refine g_goto X (tgt := 19) dX9_sheetOf_15 (by decide) ?_
      obtain ⟨rfl, rfl⟩ := lf2 hf
      exact hret 19 _ dX9_sheetOf_19

theorem shOk {s : Int32} {m m1 : Mem} {r : Option Nat} (h : X9_sheetOf s m = some (r, m1)) : ∀ a, r = some a → isS a := by
  intro a ha
  subst ha
  unfold X9_sheetOf at h
  repeat' split at h
  all_goals first
    | (cases h; done)
    | (obtain ⟨h1, -⟩ := lf2 h; cases h1; done)
    | (obtain ⟨w, e, h⟩ := wi_i h; obtain ⟨h1, -⟩ := lf2 h; rw [Option.some.inj h1, e]; exact S_is (inn_lt (by assumption)))
