theorem kV_X10_351 : wcV RX10 351 RX10 yX10_knows cX10_knows 2 (some .int) 1 := ⟨q_ml_X10_351, q_im_yX10_knows, q_se_yX10_knows, q_in_X10, q_co_yX10_knows, by decide +kernel⟩

theorem kS_X10_354 : wcS RX10 354 yX10_bitsOf cX10_bitsOf 3 (some .int) 1 := ⟨q_ml_X10_354, q_st_yX10_bitsOf, q_in_X10, q_co_yX10_bitsOf, by decide +kernel⟩

theorem kV_X10_348 : wcV RX10 348 RX10 yX10_read cX10_read 6 (some .int) 2 := ⟨q_ml_X10_348, q_im_yX10_read, q_se_yX10_read, q_in_X10, q_co_yX10_read, by decide +kernel⟩

theorem kS_X10_357 : wcS RX10 357 yX10_within cX10_within 3 (some .int) 3 := ⟨q_ml_X10_357, q_st_yX10_within, q_in_X10, q_co_yX10_within, by decide +kernel⟩

def X10_asks_73 (v1 : Int32) (s0 : Int32) (m0 : Mem) : Option (Int32 × Mem) :=
  bi (X10_read ((pI (pI m0 63 17 s0) 63 18 ((pI m0 63 17 s0).1 63 7)).1 63 4) v1 (pI (pI m0 63 17 s0) 63 18 ((pI m0 63 17 s0).1 63 7))) fun r90 m90 =>
  if v1 = 0 then
    some (r90, m90)
  else
    bi (X10_within r90 (0 : Int32) (99 : Int32) m90) fun r109 m109 =>
    some (r109, m109)
def X10_asks (p0 : Int32) (p1 : Int32) (p2 : Int32) (m0 : Mem) : Option (Int32 × Mem) :=
  if inn ((5 : Int32) * p1) 30 then
  bi (X10_knows p1 (pI (pI m0 63 13 p2) 63 14 ((pI m0 63 13 p2).1 69 ((5 : Int32) * p1).toNatClampNeg))) fun r20 m20 =>
  bi (X10_bitsOf r20 m20) fun r23 m23 =>
  if inn (((5 : Int32) * p1) + (1 : Int32)) 30 then
  if inn (((8 : Int32) * ((pI m23 63 15 r23).1 69 (((5 : Int32) * p1) + (1 : Int32)).toNatClampNeg)) + p2) 64 then
  if inn (((5 : Int32) * p1) + (1 : Int32)) 30 then
  if ((pI (pI m23 63 15 r23) 63 16 ((pI m23 63 15 r23).1 70 (((8 : Int32) * ((pI m23 63 15 r23).1 69 (((5 : Int32) * p1) + (1 : Int32)).toNatClampNeg)) + p2).toNatClampNeg)).1 69 (((5 : Int32) * p1) + (1 : Int32)).toNatClampNeg) = p2 then
    X10_asks_73 p0 (1 : Int32) (pI (pI m23 63 15 r23) 63 16 ((pI m23 63 15 r23).1 70 (((8 : Int32) * ((pI m23 63 15 r23).1 69 (((5 : Int32) * p1) + (1 : Int32)).toNatClampNeg)) + p2).toNatClampNeg))
  else
    X10_asks_73 p0 (0 : Int32) (pI (pI m23 63 15 r23) 63 16 ((pI m23 63 15 r23).1 70 (((8 : Int32) * ((pI m23 63 15 r23).1 69 (((5 : Int32) * p1) + (1 : Int32)).toNatClampNeg)) + p2).toNatClampNeg))
  else none
  else none
  else none
  else none
abbrev rmX10_asks : Room := { frames := 42, cells := 0, slots := 0, locals := 930 }
set_option maxRecDepth 100000 in
set_option maxHeartbeats 4000000 in
theorem w_X10_asks_73 {Γ : Ga} {b : Nat} {ad : Nat → Nat} {nt : Nat} {z : Nat → Nat} {r9 : Int32} {m9 : Mem} (X : Cx Γ b cX10_asks 5 RX10 (some .int) rmX10_asks) (hret : ∀ (pc : Nat) (lv : List (Nat × Value)), decode cX10_asks pc = .ok (.ireturn, 1) → narrow .int (.int r9) = .int r9 → Go Γ b (sg ad nt z) 0 0 pc lv [.int r9] m9) (v1 : Int32) (s0 : Int32) (m0 : Mem) (hf : X10_asks_73 v1 s0 m0 = some (r9, m9)) : Go Γ b (sg ad nt z) 0 0 73 [(0, .ref (ad 63)), (1, .int v1)] [.int s0, .ref (ad 63)] m0 := by
  refine g_putI X (tyf := tyX10) 63 9 17 dX10_asks_73 (sgN (by decide)) rfl (by decide) rfl iw_X10 (by decide) rfl q_fl_X10_215 tyX10_ok nmX10 rfl rfl rfl ?_
  refine g_aload_n X 0 dX10_asks_76 rfl rfl ?_
  refine g_aload_n X 0 dX10_asks_77 rfl rfl ?_
  refine g_getI X 63 9 7 dX10_asks_78 (sgN (by decide)) rfl (by decide) rfl iw_X10 (by decide) rfl q_fl_X10_100 ?_
  refine g_putI X (tyf := tyX10) 63 9 18 dX10_asks_81 (sgN (by decide)) rfl (by decide) rfl iw_X10 (by decide) rfl q_fl_X10_218 tyX10_ok nmX10 rfl rfl rfl ?_
  refine g_aload_n X 0 dX10_asks_84 rfl rfl ?_
  refine g_aload_n X 0 dX10_asks_85 rfl rfl ?_
  refine g_getI X 63 9 4 dX10_asks_86 (sgN (by decide)) rfl (by decide) rfl iw_X10 (by decide) rfl q_fl_X10_103 ?_
  refine g_iload_n X 1 dX10_asks_89 rfl rfl ?_
  obtain ⟨r90, m90, h90, hf⟩ := bi_i hf
  refine g_eVI X 63 9 [.int ((pI (pI m0 63 17 s0) 63 18 ((pI m0 63 17 s0).1 63 7)).1 63 4), .int v1] kV_X10_348 (c_X10_read h90) dX10_asks_90 rfl rfl (sgN (by decide)) rfl (by decide) rfl rfl ⟨(Nat.le_of_ble_eq_true rfl), (Nat.le_of_ble_eq_true rfl)⟩ ⟨rfl, rfl⟩ ⟨(Nat.zero_le _), (Nat.zero_le _)⟩ (Nat.le_of_ble_eq_true rfl) ?_
  refine g_istore X (lv' := [(4, .int r90), (0, .ref (ad 63)), (1, .int v1)]) dX10_asks_93 (by decide) rfl ?_
  refine g_iload_n X 2 dX10_asks_95 rfl rfl ?_
  refine g_if_ne X (tgt := 104) dX10_asks_96 (by decide) (fun c96 => ?_) (fun c96 => ?_)
  · have hf := ie c96 hf
    refine g_iload X 0 dX10_asks_104 rfl ?_
    refine g_iconst X (v := 0) dX10_asks_106 (by decide) ?_
    refine g_bipush X (v := 99) dX10_asks_107 (by decide) ?_
    obtain ⟨r109, m109, h109, hf⟩ := bi_i hf
    refine g_eSI X [.int r90, .int (0 : Int32), .int (99 : Int32)] kS_X10_357 (c_X10_within h109) dX10_asks_109 rfl rfl ⟨(Nat.le_of_ble_eq_true rfl), (Nat.le_of_ble_eq_true rfl)⟩ ⟨rfl, rfl⟩ ⟨(Nat.zero_le _), (Nat.zero_le _)⟩ (Nat.le_of_ble_eq_true rfl) ?_
    obtain ⟨rfl, rfl⟩ := lf2 hf
    exact hret 112 _ dX10_asks_112 rfl
  · have hf := it c96 hf
    refine g_iload X 0 dX10_asks_99 rfl ?_
    refine g_goto X (tgt := 112) dX10_asks_101 (by decide) ?_
    obtain ⟨rfl, rfl⟩ := lf2 hf
    exact hret 112 _ dX10_asks_112 rfl
set_option maxRecDepth 100000 in
set_option maxHeartbeats 4000000 in
theorem c_X10_asks {l : Launch} {G : GG} {b : Nat} {ad : Nat → Nat} {nt : Nat} {z : Nat → Nat} {p0 : Int32} {p1 : Int32} {p2 : Int32} {m0 : Mem} {r9 : Int32} {m9 : Mem} (hf : X10_asks p0 p1 p2 m0 = some (r9, m9)) : MtI l yX10_asks cX10_asks 5 (some .int) rmX10_asks G b (sg ad nt z) m0 [.ref (ad 63), .int p0, .int p1, .int p2] (pEI r9 (sg ad nt z) m9) := by
  refine mtI_of (by decide) (Nat.le_of_ble_eq_true rfl) .int rfl (fun Γ hG X hnm hr => ?_)
  have hret : ∀ (pc : Nat) (lv : List (Nat × Value)), decode cX10_asks pc = .ok (.ireturn, 1) → narrow .int (.int r9) = .int r9 → Go Γ b (sg ad nt z) 0 0 pc lv [.int r9] m9 := fun pc lv d hn => hr pc lv _ _ _ d ⟨rfl, rfl, rfl⟩ hn
  show Go Γ b (sg ad nt z) 0 0 0 [(0, .ref (ad 63)), (1, .int p0), (2, .int p1), (3, .int p2)] [] m0
  refine g_aload_n X 0 dX10_asks_0 rfl rfl ?_
  refine g_iload_n X 3 dX10_asks_1 rfl rfl ?_
  refine g_putI X (tyf := tyX10) 63 9 13 dX10_asks_2 (sgN (by decide)) rfl (by decide) rfl iw_X10 (by decide) rfl q_fl_X10_203 tyX10_ok nmX10 rfl rfl rfl ?_
  refine g_aload_n X 0 dX10_asks_5 rfl rfl ?_
  refine g_aload_n X 0 dX10_asks_6 rfl rfl ?_
  refine g_getr X (x := ad 69) 63 9 10 dX10_asks_7 (sgN (by decide)) rfl (by decide) rfl iw_X10 (by decide) rfl q_fl_X10_29 rfl ?_
  refine g_iconst X (v := 5) dX10_asks_10 (by decide) ?_
  refine g_iload_n X 2 dX10_asks_11 rfl rfl ?_
  refine g_imul X dX10_asks_12 ?_
  obtain ⟨h13, hf⟩ := grd hf
  refine g_iald X 69 (n := 30) dX10_asks_13 (sgN (by decide)) rfl rfl h13 ?_
  refine g_putI X (tyf := tyX10) 63 9 14 dX10_asks_14 (sgN (by decide)) rfl (by decide) rfl iw_X10 (by decide) rfl q_fl_X10_206 tyX10_ok nmX10 rfl rfl rfl ?_
  refine g_aload_n X 0 dX10_asks_17 rfl rfl ?_
  refine g_aload_n X 0 dX10_asks_18 rfl rfl ?_
  refine g_iload_n X 2 dX10_asks_19 rfl rfl ?_
  obtain ⟨r20, m20, h20, hf⟩ := bi_i hf
  refine g_eVI X 63 9 [.int p1] kV_X10_351 (c_X10_knows h20) dX10_asks_20 rfl rfl (sgN (by decide)) rfl (by decide) rfl rfl ⟨(Nat.le_of_ble_eq_true rfl), (Nat.le_of_ble_eq_true rfl)⟩ ⟨rfl, rfl⟩ ⟨(Nat.zero_le _), (Nat.zero_le _)⟩ (Nat.le_of_ble_eq_true rfl) ?_
  obtain ⟨r23, m23, h23, hf⟩ := bi_i hf
  refine g_eSI X [.int r20] kS_X10_354 (c_X10_bitsOf h23) dX10_asks_23 rfl rfl ⟨(Nat.le_of_ble_eq_true rfl), (Nat.le_of_ble_eq_true rfl)⟩ ⟨rfl, rfl⟩ ⟨(Nat.zero_le _), (Nat.zero_le _)⟩ (Nat.le_of_ble_eq_true rfl) ?_
  refine g_putI X (tyf := tyX10) 63 9 15 dX10_asks_26 (sgN (by decide)) rfl (by decide) rfl iw_X10 (by decide) rfl q_fl_X10_209 tyX10_ok nmX10 rfl rfl rfl ?_
  refine g_aload_n X 0 dX10_asks_29 rfl rfl ?_
  refine g_aload_n X 0 dX10_asks_30 rfl rfl ?_
  refine g_getr X (x := ad 70) 63 9 12 dX10_asks_31 (sgN (by decide)) rfl (by decide) rfl iw_X10 (by decide) rfl q_fl_X10_32 rfl ?_
  refine g_bipush X (v := 8) dX10_asks_34 (by decide) ?_
  refine g_aload_n X 0 dX10_asks_36 rfl rfl ?_
  refine g_getr X (x := ad 69) 63 9 10 dX10_asks_37 (sgN (by decide)) rfl (by decide) rfl iw_X10 (by decide) rfl q_fl_X10_29 rfl ?_
  refine g_iconst X (v := 5) dX10_asks_40 (by decide) ?_
  refine g_iload_n X 2 dX10_asks_41 rfl rfl ?_
  refine g_imul X dX10_asks_42 ?_
  refine g_iconst X (v := 1) dX10_asks_43 (by decide) ?_
  refine g_iadd X dX10_asks_44 ?_
  obtain ⟨h45, hf⟩ := grd hf
  refine g_iald X 69 (n := 30) dX10_asks_45 (sgN (by decide)) rfl rfl h45 ?_
  refine g_imul X dX10_asks_46 ?_
  refine g_iload_n X 3 dX10_asks_47 rfl rfl ?_
  refine g_iadd X dX10_asks_48 ?_
  obtain ⟨h49, hf⟩ := grd hf
  refine g_iald X 70 (n := 64) dX10_asks_49 (sgN (by decide)) rfl rfl h49 ?_
  refine g_putI X (tyf := tyX10) 63 9 16 dX10_asks_50 (sgN (by decide)) rfl (by decide) rfl iw_X10 (by decide) rfl q_fl_X10_212 tyX10_ok nmX10 rfl rfl rfl ?_
  refine g_aload_n X 0 dX10_asks_53 rfl rfl ?_
  refine g_aload_n X 0 dX10_asks_54 rfl rfl ?_
  refine g_getr X (x := ad 69) 63 9 10 dX10_asks_55 (sgN (by decide)) rfl (by decide) rfl iw_X10 (by decide) rfl q_fl_X10_29 rfl ?_
  refine g_iconst X (v := 5) dX10_asks_58 (by decide) ?_
  refine g_iload_n X 2 dX10_asks_59 rfl rfl ?_
  refine g_imul X dX10_asks_60 ?_
  refine g_iconst X (v := 1) dX10_asks_61 (by decide) ?_
  refine g_iadd X dX10_asks_62 ?_
  obtain ⟨h63, hf⟩ := grd hf
  refine g_iald X 69 (n := 30) dX10_asks_63 (sgN (by decide)) rfl rfl h63 ?_
  refine g_iload_n X 3 dX10_asks_64 rfl rfl ?_
  refine g_icmp_ne X (tgt := 72) dX10_asks_65 (by decide) (fun c65 => ?_) (fun c65 => ?_)
  · have hf := ie c65 hf
    refine g_iconst X (v := 0) dX10_asks_72 (by decide) ?_
    refine g_pick [0, 1] (lv' := [(0, .ref (ad 63)), (1, .int p0)]) rfl ?_
    exact w_X10_asks_73 X hret p0 (0 : Int32) (pI (pI m23 63 15 r23) 63 16 ((pI m23 63 15 r23).1 70 (((8 : Int32) * ((pI m23 63 15 r23).1 69 (((5 : Int32) * p1) + (1 : Int32)).toNatClampNeg)) + p2).toNatClampNeg)) hf
  · have hf := it c65 hf
    refine g_iconst X (v := 1) dX10_asks_68 (by decide) ?_
    refine g_goto X (tgt := 73) dX10_asks_69 (by decide) ?_
    refine g_pick [0, 1] (lv' := [(0, .ref (ad 63)), (1, .int p0)]) rfl ?_
    exact w_X10_asks_73 X hret p0 (1 : Int32) (pI (pI m23 63 15 r23) 63 16 ((pI m23 63 15 r23).1 70 (((8 : Int32) * ((pI m23 63 15 r23).1 69 (((5 : Int32) * p1) + (1 : Int32)).toNatClampNeg)) + p2).toNatClampNeg)) hf

theorem kV_X10_361 : wcV RX10 361 RX10 yX10_asks cX10_asks 5 (some .int) 3 := ⟨q_ml_X10_361, q_im_yX10_asks, q_se_yX10_asks, q_in_X10, q_co_yX10_asks, by decide +kernel⟩

def X10_worthOf_89 (s0 : Int32) (m0 : Mem) : Option (Int32 × Mem) :=
  bi (X10_within s0 (0 : Int32) (999 : Int32) m0) fun r93 m93 =>
  some (r93, m93)
def X10_worthOf (p0 : Int32) (p1 : Int32) (m0 : Mem) : Option (Int32 × Mem) :=
  if inn p0 6 then
  if (m0.1 68 p0.toNatClampNeg) = (5 : Int32) then
    some ((0 : Int32), m0)
  else
    bi (X10_asks (1 : Int32) p0 p1 m0) fun r18 m18 =>
    if inn ((5 : Int32) * p0) 30 then
    if (m0.1 68 p0.toNatClampNeg) = (1 : Int32) then
      X10_worthOf_89 ((2 : Int32) * r18) m18
    else
      if (m0.1 68 p0.toNatClampNeg) = (3 : Int32) then
        X10_worthOf_89 (((2 : Int32) * r18) + (5 : Int32)) m18
      else
        if (m0.1 68 p0.toNatClampNeg) = (2 : Int32) then
          X10_worthOf_89 (r18 + (m18.1 69 ((5 : Int32) * p0).toNatClampNeg)) m18
        else
          if (m0.1 68 p0.toNatClampNeg) = (4 : Int32) then
            X10_worthOf_89 ((r18 + (m18.1 69 ((5 : Int32) * p0).toNatClampNeg)) / (2 : Int32)) m18
          else
            X10_worthOf_89 r18 m18
    else none
  else none
abbrev rmX10_worthOf : Room := { frames := 43, cells := 0, slots := 0, locals := 954 }
set_option maxRecDepth 100000 in
set_option maxHeartbeats 4000000 in
theorem w_X10_worthOf_89 {Γ : Ga} {b : Nat} {ad : Nat → Nat} {nt : Nat} {z : Nat → Nat} {r9 : Int32} {m9 : Mem} (X : Cx Γ b cX10_worthOf 6 RX10 (some .int) rmX10_worthOf) (hret : ∀ (pc : Nat) (lv : List (Nat × Value)), decode cX10_worthOf pc = .ok (.ireturn, 1) → narrow .int (.int r9) = .int r9 → Go Γ b (sg ad nt z) 0 0 pc lv [.int r9] m9) (s0 : Int32) (m0 : Mem) (hf : X10_worthOf_89 s0 m0 = some (r9, m9)) : Go Γ b (sg ad nt z) 0 0 89 [] [.int s0] m0 := by
  refine g_iconst X (v := 0) dX10_worthOf_89 (by decide) ?_
  refine g_sipush X (v := 999) dX10_worthOf_90 (by decide) ?_
  obtain ⟨r93, m93, h93, hf⟩ := bi_i hf
  refine g_eSI X [.int s0, .int (0 : Int32), .int (999 : Int32)] kS_X10_357 (c_X10_within h93) dX10_worthOf_93 rfl rfl ⟨(Nat.le_of_ble_eq_true rfl), (Nat.le_of_ble_eq_true rfl)⟩ ⟨rfl, rfl⟩ ⟨(Nat.zero_le _), (Nat.zero_le _)⟩ (Nat.le_of_ble_eq_true rfl) ?_
  obtain ⟨rfl, rfl⟩ := lf2 hf
  exact hret 96 _ dX10_worthOf_96 rfl
set_option maxRecDepth 100000 in
set_option maxHeartbeats 4000000 in
theorem c_X10_worthOf {l : Launch} {G : GG} {b : Nat} {ad : Nat → Nat} {nt : Nat} {z : Nat → Nat} {p0 : Int32} {p1 : Int32} {m0 : Mem} {r9 : Int32} {m9 : Mem} (hf : X10_worthOf p0 p1 m0 = some (r9, m9)) : MtI l yX10_worthOf cX10_worthOf 6 (some .int) rmX10_worthOf G b (sg ad nt z) m0 [.ref (ad 63), .int p0, .int p1] (pEI r9 (sg ad nt z) m9) := by
  refine mtI_of (by decide) (Nat.le_of_ble_eq_true rfl) .int rfl (fun Γ hG X hnm hr => ?_)
  have hret : ∀ (pc : Nat) (lv : List (Nat × Value)), decode cX10_worthOf pc = .ok (.ireturn, 1) → narrow .int (.int r9) = .int r9 → Go Γ b (sg ad nt z) 0 0 pc lv [.int r9] m9 := fun pc lv d hn => hr pc lv _ _ _ d ⟨rfl, rfl, rfl⟩ hn
  show Go Γ b (sg ad nt z) 0 0 0 [(0, .ref (ad 63)), (1, .int p0), (2, .int p1)] [] m0
  refine g_aload_n X 0 dX10_worthOf_0 rfl rfl ?_
  refine g_getr X (x := ad 68) 63 9 9 dX10_worthOf_1 (sgN (by decide)) rfl (by decide) rfl iw_X10 (by decide) rfl q_fl_X10_26 rfl ?_
  refine g_iload_n X 1 dX10_worthOf_4 rfl rfl ?_
  obtain ⟨h5, hf⟩ := grd hf
  refine g_iald X 68 (n := 6) dX10_worthOf_5 (sgN (by decide)) rfl rfl h5 ?_
  refine g_istore_n X (lv' := [(3, .int (m0.1 68 p0.toNatClampNeg)), (0, .ref (ad 63)), (1, .int p0), (2, .int p1)]) dX10_worthOf_6 rfl (by decide) rfl ?_
  refine g_iload_n X 0 dX10_worthOf_7 rfl rfl ?_
  refine g_iconst X (v := 5) dX10_worthOf_8 (by decide) ?_
  refine g_icmp_ne X (tgt := 14) dX10_worthOf_9 (by decide) (fun c9 => ?_) (fun c9 => ?_)
  · have hf := ie c9 hf
    refine g_aload_n X 1 dX10_worthOf_14 rfl rfl ?_
    refine g_iconst X (v := 1) dX10_worthOf_15 (by decide) ?_
    refine g_iload_n X 2 dX10_worthOf_16 rfl rfl ?_
    refine g_iload_n X 3 dX10_worthOf_17 rfl rfl ?_
    obtain ⟨r18, m18, h18, hf⟩ := bi_i hf
    refine g_eVI X 63 9 [.int (1 : Int32), .int p0, .int p1] kV_X10_361 (c_X10_asks h18) dX10_worthOf_18 rfl rfl (sgN (by decide)) rfl (by decide) rfl rfl ⟨(Nat.le_of_ble_eq_true rfl), (Nat.le_of_ble_eq_true rfl)⟩ ⟨rfl, rfl⟩ ⟨(Nat.zero_le _), (Nat.zero_le _)⟩ (Nat.le_of_ble_eq_true rfl) ?_
    refine g_istore X (lv' := [(4, .int r18), (3, .int (m0.1 68 p0.toNatClampNeg)), (0, .ref (ad 63)), (1, .int p0), (2, .int p1)]) dX10_worthOf_21 (by decide) rfl ?_
    refine g_aload_n X 2 dX10_worthOf_23 rfl rfl ?_
    refine g_getr X (x := ad 69) 63 9 10 dX10_worthOf_24 (sgN (by decide)) rfl (by decide) rfl iw_X10 (by decide) rfl q_fl_X10_29 rfl ?_
    refine g_iconst X (v := 5) dX10_worthOf_27 (by decide) ?_
    refine g_iload_n X 3 dX10_worthOf_28 rfl rfl ?_
    refine g_imul X dX10_worthOf_29 ?_
    obtain ⟨h30, hf⟩ := grd hf
    refine g_iald X 69 (n := 30) dX10_worthOf_30 (sgN (by decide)) rfl rfl h30 ?_
    refine g_istore X (lv' := [(5, .int (m18.1 69 ((5 : Int32) * p0).toNatClampNeg)), (4, .int r18), (3, .int (m0.1 68 p0.toNatClampNeg)), (0, .ref (ad 63)), (1, .int p0), (2, .int p1)]) dX10_worthOf_31 (by decide) rfl ?_
    refine g_iload_n X 2 dX10_worthOf_33 rfl rfl ?_
    refine g_iconst X (v := 1) dX10_worthOf_34 (by decide) ?_
    refine g_icmp_ne X (tgt := 45) dX10_worthOf_35 (by decide) (fun c35 => ?_) (fun c35 => ?_)
    · have hf := ie c35 hf
      refine g_iload_n X 2 dX10_worthOf_45 rfl rfl ?_
      refine g_iconst X (v := 3) dX10_worthOf_46 (by decide) ?_
      refine g_icmp_ne X (tgt := 59) dX10_worthOf_47 (by decide) (fun c47 => ?_) (fun c47 => ?_)
      · have hf := ie c47 hf
        refine g_iload_n X 2 dX10_worthOf_59 rfl rfl ?_
        refine g_iconst X (v := 2) dX10_worthOf_60 (by decide) ?_
        refine g_icmp_ne X (tgt := 72) dX10_worthOf_61 (by decide) (fun c61 => ?_) (fun c61 => ?_)
        · have hf := ie c61 hf
          refine g_iload_n X 2 dX10_worthOf_72 rfl rfl ?_
          refine g_iconst X (v := 4) dX10_worthOf_73 (by decide) ?_
          refine g_icmp_ne X (tgt := 87) dX10_worthOf_74 (by decide) (fun c74 => ?_) (fun c74 => ?_)
          · have hf := ie c74 hf
            refine g_iload X 1 dX10_worthOf_87 rfl ?_
            refine g_pick [] (lv' := []) rfl ?_
            exact w_X10_worthOf_89 X hret r18 m18 hf
          · have hf := it c74 hf
            refine g_iload X 1 dX10_worthOf_77 rfl ?_
            refine g_iload X 0 dX10_worthOf_79 rfl ?_
            refine g_iadd X dX10_worthOf_81 ?_
            refine g_iconst X (v := 2) dX10_worthOf_82 (by decide) ?_
            refine g_idiv X dX10_worthOf_83 (by decide) ?_
            refine g_goto X (tgt := 89) dX10_worthOf_84 (by decide) ?_
            refine g_pick [] (lv' := []) rfl ?_
            exact w_X10_worthOf_89 X hret ((r18 + (m18.1 69 ((5 : Int32) * p0).toNatClampNeg)) / (2 : Int32)) m18 hf
        · have hf := it c61 hf
          refine g_iload X 1 dX10_worthOf_64 rfl ?_
          refine g_iload X 0 dX10_worthOf_66 rfl ?_
          refine g_iadd X dX10_worthOf_68 ?_
          refine g_goto X (tgt := 89) dX10_worthOf_69 (by decide) ?_
          refine g_pick [] (lv' := []) rfl ?_
          exact w_X10_worthOf_89 X hret (r18 + (m18.1 69 ((5 : Int32) * p0).toNatClampNeg)) m18 hf
      · have hf := it c47 hf
        refine g_iconst X (v := 2) dX10_worthOf_50 (by decide) ?_
        refine g_iload X 1 dX10_worthOf_51 rfl ?_
        refine g_imul X dX10_worthOf_53 ?_
        refine g_iconst X (v := 5) dX10_worthOf_54 (by decide) ?_
        refine g_iadd X dX10_worthOf_55 ?_
        refine g_goto X (tgt := 89) dX10_worthOf_56 (by decide) ?_
        refine g_pick [] (lv' := []) rfl ?_
        exact w_X10_worthOf_89 X hret (((2 : Int32) * r18) + (5 : Int32)) m18 hf
    · have hf := it c35 hf
      refine g_iconst X (v := 2) dX10_worthOf_38 (by decide) ?_
      refine g_iload X 1 dX10_worthOf_39 rfl ?_
      refine g_imul X dX10_worthOf_41 ?_
      refine g_goto X (tgt := 89) dX10_worthOf_42 (by decide) ?_
      refine g_pick [] (lv' := []) rfl ?_
      exact w_X10_worthOf_89 X hret ((2 : Int32) * r18) m18 hf
  · have hf := it c9 hf
    refine g_iconst X (v := 0) dX10_worthOf_12 (by decide) ?_
    obtain ⟨rfl, rfl⟩ := lf2 hf
    exact hret 13 _ dX10_worthOf_13 rfl

def X10_timeOf_71 (s0 : Int32) (m0 : Mem) : Option (Int32 × Mem) :=
  bi (X10_within s0 (0 : Int32) (999 : Int32) m0) fun r75 m75 =>
  some (r75, m75)
def X10_timeOf (p0 : Int32) (p1 : Int32) (m0 : Mem) : Option (Int32 × Mem) :=
  if inn p0 6 then
  if (m0.1 68 p0.toNatClampNeg) = (5 : Int32) then
    some ((20 : Int32), m0)
  else
    bi (X10_asks (2 : Int32) p0 p1 m0) fun r19 m19 =>
    if (m0.1 68 p0.toNatClampNeg) = (3 : Int32) then
      if inn ((5 : Int32) * p0) 30 then
      X10_timeOf_71 (r19 + (m19.1 69 ((5 : Int32) * p0).toNatClampNeg)) m19
      else none
    else
      if (m0.1 68 p0.toNatClampNeg) = (2 : Int32) then
        X10_timeOf_71 (r19 / (2 : Int32)) m19
      else
        if (m0.1 68 p0.toNatClampNeg) = (4 : Int32) then
          X10_timeOf_71 ((r19 / (2 : Int32)) + (1 : Int32)) m19
        else
          X10_timeOf_71 r19 m19
  else none
abbrev rmX10_timeOf : Room := { frames := 43, cells := 0, slots := 0, locals := 954 }
set_option maxRecDepth 100000 in
set_option maxHeartbeats 4000000 in
theorem w_X10_timeOf_71 {Γ : Ga} {b : Nat} {ad : Nat → Nat} {nt : Nat} {z : Nat → Nat} {r9 : Int32} {m9 : Mem} (X : Cx Γ b cX10_timeOf 5 RX10 (some .int) rmX10_timeOf) (hret : ∀ (pc : Nat) (lv : List (Nat × Value)), decode cX10_timeOf pc = .ok (.ireturn, 1) → narrow .int (.int r9) = .int r9 → Go Γ b (sg ad nt z) 0 0 pc lv [.int r9] m9) (s0 : Int32) (m0 : Mem) (hf : X10_timeOf_71 s0 m0 = some (r9, m9)) : Go Γ b (sg ad nt z) 0 0 71 [] [.int s0] m0 := by
  refine g_iconst X (v := 0) dX10_timeOf_71 (by decide) ?_
  refine g_sipush X (v := 999) dX10_timeOf_72 (by decide) ?_
  obtain ⟨r75, m75, h75, hf⟩ := bi_i hf
  refine g_eSI X [.int s0, .int (0 : Int32), .int (999 : Int32)] kS_X10_357 (c_X10_within h75) dX10_timeOf_75 rfl rfl ⟨(Nat.le_of_ble_eq_true rfl), (Nat.le_of_ble_eq_true rfl)⟩ ⟨rfl, rfl⟩ ⟨(Nat.zero_le _), (Nat.zero_le _)⟩ (Nat.le_of_ble_eq_true rfl) ?_
  obtain ⟨rfl, rfl⟩ := lf2 hf
  exact hret 78 _ dX10_timeOf_78 rfl
set_option maxRecDepth 100000 in
set_option maxHeartbeats 4000000 in
theorem c_X10_timeOf {l : Launch} {G : GG} {b : Nat} {ad : Nat → Nat} {nt : Nat} {z : Nat → Nat} {p0 : Int32} {p1 : Int32} {m0 : Mem} {r9 : Int32} {m9 : Mem} (hf : X10_timeOf p0 p1 m0 = some (r9, m9)) : MtI l yX10_timeOf cX10_timeOf 5 (some .int) rmX10_timeOf G b (sg ad nt z) m0 [.ref (ad 63), .int p0, .int p1] (pEI r9 (sg ad nt z) m9) := by
  refine mtI_of (by decide) (Nat.le_of_ble_eq_true rfl) .int rfl (fun Γ hG X hnm hr => ?_)
  have hret : ∀ (pc : Nat) (lv : List (Nat × Value)), decode cX10_timeOf pc = .ok (.ireturn, 1) → narrow .int (.int r9) = .int r9 → Go Γ b (sg ad nt z) 0 0 pc lv [.int r9] m9 := fun pc lv d hn => hr pc lv _ _ _ d ⟨rfl, rfl, rfl⟩ hn
  show Go Γ b (sg ad nt z) 0 0 0 [(0, .ref (ad 63)), (1, .int p0), (2, .int p1)] [] m0
  refine g_aload_n X 0 dX10_timeOf_0 rfl rfl ?_
  refine g_getr X (x := ad 68) 63 9 9 dX10_timeOf_1 (sgN (by decide)) rfl (by decide) rfl iw_X10 (by decide) rfl q_fl_X10_26 rfl ?_
  refine g_iload_n X 1 dX10_timeOf_4 rfl rfl ?_
  obtain ⟨h5, hf⟩ := grd hf
  refine g_iald X 68 (n := 6) dX10_timeOf_5 (sgN (by decide)) rfl rfl h5 ?_
  refine g_istore_n X (lv' := [(3, .int (m0.1 68 p0.toNatClampNeg)), (0, .ref (ad 63)), (1, .int p0), (2, .int p1)]) dX10_timeOf_6 rfl (by decide) rfl ?_
  refine g_iload_n X 0 dX10_timeOf_7 rfl rfl ?_
  refine g_iconst X (v := 5) dX10_timeOf_8 (by decide) ?_
  refine g_icmp_ne X (tgt := 15) dX10_timeOf_9 (by decide) (fun c9 => ?_) (fun c9 => ?_)
  · have hf := ie c9 hf
    refine g_aload_n X 1 dX10_timeOf_15 rfl rfl ?_
    refine g_iconst X (v := 2) dX10_timeOf_16 (by decide) ?_
    refine g_iload_n X 2 dX10_timeOf_17 rfl rfl ?_
    refine g_iload_n X 3 dX10_timeOf_18 rfl rfl ?_
    obtain ⟨r19, m19, h19, hf⟩ := bi_i hf
    refine g_eVI X 63 9 [.int (2 : Int32), .int p0, .int p1] kV_X10_361 (c_X10_asks h19) dX10_timeOf_19 rfl rfl (sgN (by decide)) rfl (by decide) rfl rfl ⟨(Nat.le_of_ble_eq_true rfl), (Nat.le_of_ble_eq_true rfl)⟩ ⟨rfl, rfl⟩ ⟨(Nat.zero_le _), (Nat.zero_le _)⟩ (Nat.le_of_ble_eq_true rfl) ?_
    refine g_istore X (lv' := [(4, .int r19), (3, .int (m0.1 68 p0.toNatClampNeg)), (0, .ref (ad 63)), (1, .int p0), (2, .int p1)]) dX10_timeOf_22 (by decide) rfl ?_
    refine g_iload_n X 1 dX10_timeOf_24 rfl rfl ?_
    refine g_iconst X (v := 3) dX10_timeOf_25 (by decide) ?_
    refine g_icmp_ne X (tgt := 43) dX10_timeOf_26 (by decide) (fun c26 => ?_) (fun c26 => ?_)
    · have hf := ie c26 hf
      refine g_iload_n X 1 dX10_timeOf_43 rfl rfl ?_
      refine g_iconst X (v := 2) dX10_timeOf_44 (by decide) ?_
      refine g_icmp_ne X (tgt := 55) dX10_timeOf_45 (by decide) (fun c45 => ?_) (fun c45 => ?_)
      · have hf := ie c45 hf
        refine g_iload_n X 1 dX10_timeOf_55 rfl rfl ?_
        refine g_iconst X (v := 4) dX10_timeOf_56 (by decide) ?_
        refine g_icmp_ne X (tgt := 69) dX10_timeOf_57 (by decide) (fun c57 => ?_) (fun c57 => ?_)
        · have hf := ie c57 hf
          refine g_iload X 0 dX10_timeOf_69 rfl ?_
          refine g_pick [] (lv' := []) rfl ?_
          exact w_X10_timeOf_71 X hret r19 m19 hf
        · have hf := it c57 hf
          refine g_iload X 0 dX10_timeOf_60 rfl ?_
          refine g_iconst X (v := 2) dX10_timeOf_62 (by decide) ?_
          refine g_idiv X dX10_timeOf_63 (by decide) ?_
          refine g_iconst X (v := 1) dX10_timeOf_64 (by decide) ?_
          refine g_iadd X dX10_timeOf_65 ?_
          refine g_goto X (tgt := 71) dX10_timeOf_66 (by decide) ?_
          refine g_pick [] (lv' := []) rfl ?_
          exact w_X10_timeOf_71 X hret ((r19 / (2 : Int32)) + (1 : Int32)) m19 hf
      · have hf := it c45 hf
        refine g_iload X 0 dX10_timeOf_48 rfl ?_
        refine g_iconst X (v := 2) dX10_timeOf_50 (by decide) ?_
        refine g_idiv X dX10_timeOf_51 (by decide) ?_
        refine g_goto X (tgt := 71) dX10_timeOf_52 (by decide) ?_
        refine g_pick [] (lv' := []) rfl ?_
        exact w_X10_timeOf_71 X hret (r19 / (2 : Int32)) m19 hf
    · have hf := it c26 hf
      refine g_iload X 0 dX10_timeOf_29 rfl ?_
      refine g_aload_n X 2 dX10_timeOf_31 rfl rfl ?_
      refine g_getr X (x := ad 69) 63 9 10 dX10_timeOf_32 (sgN (by decide)) rfl (by decide) rfl iw_X10 (by decide) rfl q_fl_X10_29 rfl ?_
      refine g_iconst X (v := 5) dX10_timeOf_35 (by decide) ?_
      refine g_iload_n X 3 dX10_timeOf_36 rfl rfl ?_
      refine g_imul X dX10_timeOf_37 ?_
      obtain ⟨h38, hf⟩ := grd hf
      refine g_iald X 69 (n := 30) dX10_timeOf_38 (sgN (by decide)) rfl rfl h38 ?_
      refine g_iadd X dX10_timeOf_39 ?_
      refine g_goto X (tgt := 71) dX10_timeOf_40 (by decide) ?_
      refine g_pick [] (lv' := []) rfl ?_
      exact w_X10_timeOf_71 X hret (r19 + (m19.1 69 ((5 : Int32) * p0).toNatClampNeg)) m19 hf
  · have hf := it c9 hf
    refine g_bipush X (v := 20) dX10_timeOf_12 (by decide) ?_
    obtain ⟨rfl, rfl⟩ := lf2 hf
    exact hret 14 _ dX10_timeOf_14 rfl

def X10_takes1_98 (v1 : Int32) (v2 : Int32) (v4 : Int32) (m0 : Mem) : Option (Int32 × Mem) :=
  if v4 = 0 then
    some ((0 : Int32), m0)
  else
    if inn (((5 : Int32) * v1) + (3 : Int32)) 30 then
    if (((m0.1 69 (((5 : Int32) * v1) + (3 : Int32)).toNatClampNeg) >>> (v2 &&& 31)) &&& (1 : Int32)) = (1 : Int32) then
      some ((1 : Int32), m0)
    else
      some ((0 : Int32), m0)
    else none
def X10_takes1_86 (v1 : Int32) (v2 : Int32) (v3 : Int32) (s0 : Int32) (m0 : Mem) : Option (Int32 × Mem) :=
  if v3 = (1 : Int32) then
    X10_takes1_98 v1 v2 s0 m0
  else
    if v3 = (3 : Int32) then
      X10_takes1_98 v1 v2 s0 m0
    else
      if s0 = 0 ∨ s0 = 1 then some (s0, m0) else none
def X10_takes1_71 (v1 : Int32) (v2 : Int32) (v3 : Int32) (m0 : Mem) : Option (Int32 × Mem) :=
  bi (X10_asks (0 : Int32) v1 v2 m0) fun r75 m75 =>
  if r75 = 0 then
    X10_takes1_86 v1 v2 v3 (0 : Int32) m75
  else
    X10_takes1_86 v1 v2 v3 (1 : Int32) m75
def X10_takes1_63 (v1 : Int32) (v2 : Int32) (v3 : Int32) (m0 : Mem) : Option (Int32 × Mem) :=
  if (v2 - v2 / (2 : Int32) * (2 : Int32)) = 0 then
    some ((1 : Int32), m0)
  else
    X10_takes1_71 v1 v2 v3 m0
def X10_takes1_53 (v1 : Int32) (v2 : Int32) (v3 : Int32) (m0 : Mem) : Option (Int32 × Mem) :=
  if v3 = (2 : Int32) then
    X10_takes1_63 v1 v2 v3 m0
  else
    if v3 = (4 : Int32) then
      X10_takes1_63 v1 v2 v3 m0
    else
      X10_takes1_71 v1 v2 v3 m0
def X10_takes1_33 (v1 : Int32) (v2 : Int32) (v3 : Int32) (m0 : Mem) : Option (Int32 × Mem) :=
  if v3 = (3 : Int32) then
    if inn ((5 : Int32) * v1) 30 then
    if v2 = ((m0.1 69 ((5 : Int32) * v1).toNatClampNeg) - (m0.1 69 ((5 : Int32) * v1).toNatClampNeg) / (8 : Int32) * (8 : Int32)) then
      some ((1 : Int32), m0)
    else
      X10_takes1_53 v1 v2 v3 m0
    else none
  else
    X10_takes1_53 v1 v2 v3 m0
def X10_takes1 (p0 : Int32) (p1 : Int32) (m0 : Mem) : Option (Int32 × Mem) :=
  if inn p0 6 then
  if (m0.1 68 p0.toNatClampNeg) = (5 : Int32) then
    some ((0 : Int32), m0)
  else
    if (m0.1 68 p0.toNatClampNeg) = (4 : Int32) then
      if inn (((5 : Int32) * p0) + (1 : Int32)) 30 then
      if (m0.1 69 (((5 : Int32) * p0) + (1 : Int32)).toNatClampNeg) = p1 then
        some ((0 : Int32), m0)
      else
        X10_takes1_33 p0 p1 (m0.1 68 p0.toNatClampNeg) m0
      else none
    else
      X10_takes1_33 p0 p1 (m0.1 68 p0.toNatClampNeg) m0
  else none
abbrev rmX10_takes1 : Room := { frames := 43, cells := 0, slots := 0, locals := 954 }
set_option maxRecDepth 100000 in
set_option maxHeartbeats 4000000 in
theorem w_X10_takes1_98 {Γ : Ga} {b : Nat} {ad : Nat → Nat} {nt : Nat} {z : Nat → Nat} {r9 : Int32} {m9 : Mem} (X : Cx Γ b cX10_takes1 5 RX10 (some .boolean) rmX10_takes1) (hret : ∀ (pc : Nat) (lv : List (Nat × Value)), decode cX10_takes1 pc = .ok (.ireturn, 1) → narrow .boolean (.int r9) = .int r9 → Go Γ b (sg ad nt z) 0 0 pc lv [.int r9] m9) (v1 : Int32) (v2 : Int32) (v4 : Int32) (m0 : Mem) (hf : X10_takes1_98 v1 v2 v4 m0 = some (r9, m9)) : Go Γ b (sg ad nt z) 0 0 98 [(0, .ref (ad 63)), (1, .int v1), (2, .int v2), (4, .int v4)] [] m0 := by
  refine g_iload X 3 dX10_takes1_98 rfl ?_
  refine g_if_eq X (tgt := 125) dX10_takes1_100 (by decide) (fun c100 => ?_) (fun c100 => ?_)
  · have hf := it c100 hf
    refine g_iconst X (v := 0) dX10_takes1_125 (by decide) ?_
    refine g_goto X (tgt := 131) dX10_takes1_126 (by decide) ?_
    obtain ⟨rfl, rfl⟩ := lf2 hf
    exact hret 131 _ dX10_takes1_131 rfl
  · have hf := ie c100 hf
    refine g_aload_n X 0 dX10_takes1_103 rfl rfl ?_
    refine g_getr X (x := ad 69) 63 9 10 dX10_takes1_104 (sgN (by decide)) rfl (by decide) rfl iw_X10 (by decide) rfl q_fl_X10_29 rfl ?_
    refine g_iconst X (v := 5) dX10_takes1_107 (by decide) ?_
    refine g_iload_n X 1 dX10_takes1_108 rfl rfl ?_
    refine g_imul X dX10_takes1_109 ?_
    refine g_iconst X (v := 3) dX10_takes1_110 (by decide) ?_
    refine g_iadd X dX10_takes1_111 ?_
    obtain ⟨h112, hf⟩ := grd hf
    refine g_iald X 69 (n := 30) dX10_takes1_112 (sgN (by decide)) rfl rfl h112 ?_
    refine g_iload_n X 2 dX10_takes1_113 rfl rfl ?_
    refine g_ishr X dX10_takes1_114 ?_
    refine g_iconst X (v := 1) dX10_takes1_115 (by decide) ?_
    refine g_iand X dX10_takes1_116 ?_
    refine g_iconst X (v := 1) dX10_takes1_117 (by decide) ?_
    refine g_icmp_ne X (tgt := 125) dX10_takes1_118 (by decide) (fun c118 => ?_) (fun c118 => ?_)
    · have hf := ie c118 hf
      refine g_iconst X (v := 0) dX10_takes1_125 (by decide) ?_
      refine g_goto X (tgt := 131) dX10_takes1_126 (by decide) ?_
      obtain ⟨rfl, rfl⟩ := lf2 hf
      exact hret 131 _ dX10_takes1_131 rfl
    · have hf := it c118 hf
      refine g_iconst X (v := 1) dX10_takes1_121 (by decide) ?_
      refine g_goto X (tgt := 131) dX10_takes1_122 (by decide) ?_
      obtain ⟨rfl, rfl⟩ := lf2 hf
      exact hret 131 _ dX10_takes1_131 rfl
set_option maxRecDepth 100000 in
set_option maxHeartbeats 4000000 in
theorem w_X10_takes1_86 {Γ : Ga} {b : Nat} {ad : Nat → Nat} {nt : Nat} {z : Nat → Nat} {r9 : Int32} {m9 : Mem} (X : Cx Γ b cX10_takes1 5 RX10 (some .boolean) rmX10_takes1) (hret : ∀ (pc : Nat) (lv : List (Nat × Value)), decode cX10_takes1 pc = .ok (.ireturn, 1) → narrow .boolean (.int r9) = .int r9 → Go Γ b (sg ad nt z) 0 0 pc lv [.int r9] m9) (v1 : Int32) (v2 : Int32) (v3 : Int32) (s0 : Int32) (m0 : Mem) (hf : X10_takes1_86 v1 v2 v3 s0 m0 = some (r9, m9)) : Go Γ b (sg ad nt z) 0 0 86 [(0, .ref (ad 63)), (1, .int v1), (2, .int v2), (3, .int v3)] [.int s0] m0 := by
  refine g_istore X (lv' := [(4, .int s0), (0, .ref (ad 63)), (1, .int v1), (2, .int v2), (3, .int v3)]) dX10_takes1_86 (by decide) rfl ?_
  refine g_iload_n X 4 dX10_takes1_88 rfl rfl ?_
  refine g_iconst X (v := 1) dX10_takes1_89 (by decide) ?_
  refine g_icmp_eq X (tgt := 98) dX10_takes1_90 (by decide) (fun c90 => ?_) (fun c90 => ?_)
  · have hf := it c90 hf
    refine g_pick [1, 2, 3, 0] (lv' := [(0, .ref (ad 63)), (1, .int v1), (2, .int v2), (4, .int s0)]) rfl ?_
    exact w_X10_takes1_98 X hret v1 v2 s0 m0 hf
  · have hf := ie c90 hf
    refine g_iload_n X 4 dX10_takes1_93 rfl rfl ?_
    refine g_iconst X (v := 3) dX10_takes1_94 (by decide) ?_
    refine g_icmp_ne X (tgt := 129) dX10_takes1_95 (by decide) (fun c95 => ?_) (fun c95 => ?_)
    · have hf := ie c95 hf
      refine g_iload X 0 dX10_takes1_129 rfl ?_
      obtain ⟨hz, hf⟩ := grd hf
      obtain ⟨rfl, rfl⟩ := lf2 hf
      exact hret 131 _ dX10_takes1_131 (nw_z hz)
    · have hf := it c95 hf
      refine g_pick [1, 2, 3, 0] (lv' := [(0, .ref (ad 63)), (1, .int v1), (2, .int v2), (4, .int s0)]) rfl ?_
      exact w_X10_takes1_98 X hret v1 v2 s0 m0 hf
set_option maxRecDepth 100000 in
set_option maxHeartbeats 4000000 in
theorem w_X10_takes1_71 {Γ : Ga} {b : Nat} {ad : Nat → Nat} {nt : Nat} {z : Nat → Nat} {r9 : Int32} {m9 : Mem} (X : Cx Γ b cX10_takes1 5 RX10 (some .boolean) rmX10_takes1) (hret : ∀ (pc : Nat) (lv : List (Nat × Value)), decode cX10_takes1 pc = .ok (.ireturn, 1) → narrow .boolean (.int r9) = .int r9 → Go Γ b (sg ad nt z) 0 0 pc lv [.int r9] m9) (v1 : Int32) (v2 : Int32) (v3 : Int32) (m0 : Mem) (hf : X10_takes1_71 v1 v2 v3 m0 = some (r9, m9)) : Go Γ b (sg ad nt z) 0 0 71 [(0, .ref (ad 63)), (1, .int v1), (2, .int v2), (3, .int v3)] [] m0 := by
  refine g_aload_n X 0 dX10_takes1_71 rfl rfl ?_
  refine g_iconst X (v := 0) dX10_takes1_72 (by decide) ?_
  refine g_iload_n X 1 dX10_takes1_73 rfl rfl ?_
  refine g_iload_n X 2 dX10_takes1_74 rfl rfl ?_
  obtain ⟨r75, m75, h75, hf⟩ := bi_i hf
  refine g_eVI X 63 9 [.int (0 : Int32), .int v1, .int v2] kV_X10_361 (c_X10_asks h75) dX10_takes1_75 rfl rfl (sgN (by decide)) rfl (by decide) rfl rfl ⟨(Nat.le_of_ble_eq_true rfl), (Nat.le_of_ble_eq_true rfl)⟩ ⟨rfl, rfl⟩ ⟨(Nat.zero_le _), (Nat.zero_le _)⟩ (Nat.le_of_ble_eq_true rfl) ?_
  refine g_if_eq X (tgt := 85) dX10_takes1_78 (by decide) (fun c78 => ?_) (fun c78 => ?_)
  · have hf := it c78 hf
    refine g_iconst X (v := 0) dX10_takes1_85 (by decide) ?_
    exact w_X10_takes1_86 X hret v1 v2 v3 (0 : Int32) m75 hf
  · have hf := ie c78 hf
    refine g_iconst X (v := 1) dX10_takes1_81 (by decide) ?_
    refine g_goto X (tgt := 86) dX10_takes1_82 (by decide) ?_
    exact w_X10_takes1_86 X hret v1 v2 v3 (1 : Int32) m75 hf
set_option maxRecDepth 100000 in
set_option maxHeartbeats 4000000 in
theorem w_X10_takes1_63 {Γ : Ga} {b : Nat} {ad : Nat → Nat} {nt : Nat} {z : Nat → Nat} {r9 : Int32} {m9 : Mem} (X : Cx Γ b cX10_takes1 5 RX10 (some .boolean) rmX10_takes1) (hret : ∀ (pc : Nat) (lv : List (Nat × Value)), decode cX10_takes1 pc = .ok (.ireturn, 1) → narrow .boolean (.int r9) = .int r9 → Go Γ b (sg ad nt z) 0 0 pc lv [.int r9] m9) (v1 : Int32) (v2 : Int32) (v3 : Int32) (m0 : Mem) (hf : X10_takes1_63 v1 v2 v3 m0 = some (r9, m9)) : Go Γ b (sg ad nt z) 0 0 63 [(0, .ref (ad 63)), (1, .int v1), (2, .int v2), (3, .int v3)] [] m0 := by
  refine g_iload_n X 2 dX10_takes1_63 rfl rfl ?_
  refine g_iconst X (v := 2) dX10_takes1_64 (by decide) ?_
  refine g_irem X dX10_takes1_65 (by decide) ?_
  refine g_if_ne X (tgt := 71) dX10_takes1_66 (by decide) (fun c66 => ?_) (fun c66 => ?_)
  · have hf := ie c66 hf
    exact w_X10_takes1_71 X hret v1 v2 v3 m0 hf
  · have hf := it c66 hf
    refine g_iconst X (v := 1) dX10_takes1_69 (by decide) ?_
    obtain ⟨rfl, rfl⟩ := lf2 hf
    exact hret 70 _ dX10_takes1_70 rfl
set_option maxRecDepth 100000 in
set_option maxHeartbeats 4000000 in
theorem w_X10_takes1_53 {Γ : Ga} {b : Nat} {ad : Nat → Nat} {nt : Nat} {z : Nat → Nat} {r9 : Int32} {m9 : Mem} (X : Cx Γ b cX10_takes1 5 RX10 (some .boolean) rmX10_takes1) (hret : ∀ (pc : Nat) (lv : List (Nat × Value)), decode cX10_takes1 pc = .ok (.ireturn, 1) → narrow .boolean (.int r9) = .int r9 → Go Γ b (sg ad nt z) 0 0 pc lv [.int r9] m9) (v1 : Int32) (v2 : Int32) (v3 : Int32) (m0 : Mem) (hf : X10_takes1_53 v1 v2 v3 m0 = some (r9, m9)) : Go Γ b (sg ad nt z) 0 0 53 [(0, .ref (ad 63)), (1, .int v1), (2, .int v2), (3, .int v3)] [] m0 := by
  refine g_iload_n X 3 dX10_takes1_53 rfl rfl ?_
  refine g_iconst X (v := 2) dX10_takes1_54 (by decide) ?_
  refine g_icmp_eq X (tgt := 63) dX10_takes1_55 (by decide) (fun c55 => ?_) (fun c55 => ?_)
  · have hf := it c55 hf
    exact w_X10_takes1_63 X hret v1 v2 v3 m0 hf
  · have hf := ie c55 hf
    refine g_iload_n X 3 dX10_takes1_58 rfl rfl ?_
    refine g_iconst X (v := 4) dX10_takes1_59 (by decide) ?_
    refine g_icmp_ne X (tgt := 71) dX10_takes1_60 (by decide) (fun c60 => ?_) (fun c60 => ?_)
    · have hf := ie c60 hf
      exact w_X10_takes1_71 X hret v1 v2 v3 m0 hf
    · have hf := it c60 hf
      exact w_X10_takes1_63 X hret v1 v2 v3 m0 hf
set_option maxRecDepth 100000 in
set_option maxHeartbeats 4000000 in
theorem w_X10_takes1_33 {Γ : Ga} {b : Nat} {ad : Nat → Nat} {nt : Nat} {z : Nat → Nat} {r9 : Int32} {m9 : Mem} (X : Cx Γ b cX10_takes1 5 RX10 (some .boolean) rmX10_takes1) (hret : ∀ (pc : Nat) (lv : List (Nat × Value)), decode cX10_takes1 pc = .ok (.ireturn, 1) → narrow .boolean (.int r9) = .int r9 → Go Γ b (sg ad nt z) 0 0 pc lv [.int r9] m9) (v1 : Int32) (v2 : Int32) (v3 : Int32) (m0 : Mem) (hf : X10_takes1_33 v1 v2 v3 m0 = some (r9, m9)) : Go Γ b (sg ad nt z) 0 0 33 [(0, .ref (ad 63)), (1, .int v1), (2, .int v2), (3, .int v3)] [] m0 := by
  refine g_iload_n X 3 dX10_takes1_33 rfl rfl ?_
  refine g_iconst X (v := 3) dX10_takes1_34 (by decide) ?_
  refine g_icmp_ne X (tgt := 53) dX10_takes1_35 (by decide) (fun c35 => ?_) (fun c35 => ?_)
  · have hf := ie c35 hf
    exact w_X10_takes1_53 X hret v1 v2 v3 m0 hf
  · have hf := it c35 hf
    refine g_iload_n X 2 dX10_takes1_38 rfl rfl ?_
    refine g_aload_n X 0 dX10_takes1_39 rfl rfl ?_
    refine g_getr X (x := ad 69) 63 9 10 dX10_takes1_40 (sgN (by decide)) rfl (by decide) rfl iw_X10 (by decide) rfl q_fl_X10_29 rfl ?_
    refine g_iconst X (v := 5) dX10_takes1_43 (by decide) ?_
    refine g_iload_n X 1 dX10_takes1_44 rfl rfl ?_
    refine g_imul X dX10_takes1_45 ?_
    obtain ⟨h46, hf⟩ := grd hf
    refine g_iald X 69 (n := 30) dX10_takes1_46 (sgN (by decide)) rfl rfl h46 ?_
    refine g_bipush X (v := 8) dX10_takes1_47 (by decide) ?_
    refine g_irem X dX10_takes1_49 (by decide) ?_
    refine g_icmp_eq X (tgt := 69) dX10_takes1_50 (by decide) (fun c50 => ?_) (fun c50 => ?_)
    · have hf := it c50 hf
      refine g_iconst X (v := 1) dX10_takes1_69 (by decide) ?_
      obtain ⟨rfl, rfl⟩ := lf2 hf
      exact hret 70 _ dX10_takes1_70 rfl
    · have hf := ie c50 hf
      exact w_X10_takes1_53 X hret v1 v2 v3 m0 hf
set_option maxRecDepth 100000 in
set_option maxHeartbeats 4000000 in
theorem c_X10_takes1 {l : Launch} {G : GG} {b : Nat} {ad : Nat → Nat} {nt : Nat} {z : Nat → Nat} {p0 : Int32} {p1 : Int32} {m0 : Mem} {r9 : Int32} {m9 : Mem} (hf : X10_takes1 p0 p1 m0 = some (r9, m9)) : MtI l yX10_takes1 cX10_takes1 5 (some .boolean) rmX10_takes1 G b (sg ad nt z) m0 [.ref (ad 63), .int p0, .int p1] (pEI r9 (sg ad nt z) m9) := by
  refine mtI_of (by decide) (Nat.le_of_ble_eq_true rfl) .boolean rfl (fun Γ hG X hnm hr => ?_)
  have hret : ∀ (pc : Nat) (lv : List (Nat × Value)), decode cX10_takes1 pc = .ok (.ireturn, 1) → narrow .boolean (.int r9) = .int r9 → Go Γ b (sg ad nt z) 0 0 pc lv [.int r9] m9 := fun pc lv d hn => hr pc lv _ _ _ d ⟨rfl, rfl, rfl⟩ hn
  show Go Γ b (sg ad nt z) 0 0 0 [(0, .ref (ad 63)), (1, .int p0), (2, .int p1)] [] m0
  refine g_aload_n X 0 dX10_takes1_0 rfl rfl ?_
  refine g_getr X (x := ad 68) 63 9 9 dX10_takes1_1 (sgN (by decide)) rfl (by decide) rfl iw_X10 (by decide) rfl q_fl_X10_26 rfl ?_
  refine g_iload_n X 1 dX10_takes1_4 rfl rfl ?_
  obtain ⟨h5, hf⟩ := grd hf
  refine g_iald X 68 (n := 6) dX10_takes1_5 (sgN (by decide)) rfl rfl h5 ?_
  refine g_istore_n X (lv' := [(3, .int (m0.1 68 p0.toNatClampNeg)), (0, .ref (ad 63)), (1, .int p0), (2, .int p1)]) dX10_takes1_6 rfl (by decide) rfl ?_
  refine g_iload_n X 0 dX10_takes1_7 rfl rfl ?_
  refine g_iconst X (v := 5) dX10_takes1_8 (by decide) ?_
  refine g_icmp_eq X (tgt := 31) dX10_takes1_9 (by decide) (fun c9 => ?_) (fun c9 => ?_)
  · have hf := it c9 hf
    refine g_iconst X (v := 0) dX10_takes1_31 (by decide) ?_
    obtain ⟨rfl, rfl⟩ := lf2 hf
    exact hret 32 _ dX10_takes1_32 rfl
  · have hf := ie c9 hf
    refine g_iload_n X 0 dX10_takes1_12 rfl rfl ?_
    refine g_iconst X (v := 4) dX10_takes1_13 (by decide) ?_
    refine g_icmp_ne X (tgt := 33) dX10_takes1_14 (by decide) (fun c14 => ?_) (fun c14 => ?_)
    · have hf := ie c14 hf
      refine g_pick [1, 2, 3, 0] (lv' := [(0, .ref (ad 63)), (1, .int p0), (2, .int p1), (3, .int (m0.1 68 p0.toNatClampNeg))]) rfl ?_
      exact w_X10_takes1_33 X hret p0 p1 (m0.1 68 p0.toNatClampNeg) m0 hf
    · have hf := it c14 hf
      refine g_aload_n X 1 dX10_takes1_17 rfl rfl ?_
      refine g_getr X (x := ad 69) 63 9 10 dX10_takes1_18 (sgN (by decide)) rfl (by decide) rfl iw_X10 (by decide) rfl q_fl_X10_29 rfl ?_
      refine g_iconst X (v := 5) dX10_takes1_21 (by decide) ?_
      refine g_iload_n X 2 dX10_takes1_22 rfl rfl ?_
      refine g_imul X dX10_takes1_23 ?_
      refine g_iconst X (v := 1) dX10_takes1_24 (by decide) ?_
      refine g_iadd X dX10_takes1_25 ?_
      obtain ⟨h26, hf⟩ := grd hf
      refine g_iald X 69 (n := 30) dX10_takes1_26 (sgN (by decide)) rfl rfl h26 ?_
      refine g_iload_n X 3 dX10_takes1_27 rfl rfl ?_
      refine g_icmp_ne X (tgt := 33) dX10_takes1_28 (by decide) (fun c28 => ?_) (fun c28 => ?_)
      · have hf := ie c28 hf
        refine g_pick [1, 2, 3, 0] (lv' := [(0, .ref (ad 63)), (1, .int p0), (2, .int p1), (3, .int (m0.1 68 p0.toNatClampNeg))]) rfl ?_
        exact w_X10_takes1_33 X hret p0 p1 (m0.1 68 p0.toNatClampNeg) m0 hf
      · have hf := it c28 hf
        refine g_iconst X (v := 0) dX10_takes1_31 (by decide) ?_
        obtain ⟨rfl, rfl⟩ := lf2 hf
        exact hret 32 _ dX10_takes1_32 rfl

def X10_hoardOf_27 (k4 : Int32 → Int32 → Int32 → Mem → Option (Int32 × Mem)) (v1 : Int32) (v3 : Int32) (s0 : Int32) (s1 : Int32) (m0 : Mem) : Option (Int32 × Mem) :=
  k4 v1 (s1 ||| s0) (v3 + (1 : Int32)) m0
def X10_hoardOf_4 : Nat → Int32 → Int32 → Int32 → Mem → Option (Int32 × Mem)
  | 0, _, _, _, _ => none
  | n + 1, v1, v2, v3, m0 =>
    if (m0.1 63 11) ≤ v3 then
      bi (X10_knows v1 m0) fun r37 m37 =>
      some (r37 &&& (v2 ^^^ (-1 : Int32)), m37)
    else
      if v3 = v1 then
        X10_hoardOf_27 (X10_hoardOf_4 n) v1 v3 (0 : Int32) v2 m0
      else
        bi (X10_knows v3 m0) fun r24 m24 =>
        X10_hoardOf_27 (X10_hoardOf_4 n) v1 v3 r24 v2 m24
def X10_hoardOf (p0 : Int32) (m0 : Mem) : Option (Int32 × Mem) :=
  X10_hoardOf_4 10000 p0 (0 : Int32) (0 : Int32) m0
abbrev rmX10_hoardOf : Room := { frames := 1, cells := 0, slots := 0, locals := 21 }
set_option maxRecDepth 100000 in
set_option maxHeartbeats 4000000 in
theorem w_X10_hoardOf_27 {Γ : Ga} {b : Nat} {ad : Nat → Nat} {nt : Nat} {z : Nat → Nat} {k4 : Int32 → Int32 → Int32 → Mem → Option (Int32 × Mem)} {r9 : Int32} {m9 : Mem} (X : Cx Γ b cX10_hoardOf 4 RX10 (some .int) rmX10_hoardOf) (hret : ∀ (pc : Nat) (lv : List (Nat × Value)), decode cX10_hoardOf pc = .ok (.ireturn, 1) → narrow .int (.int r9) = .int r9 → Go Γ b (sg ad nt z) 0 0 pc lv [.int r9] m9) (hk4 : ∀ (v1 : Int32) (v2 : Int32) (v3 : Int32) (m0 : Mem), k4 v1 v2 v3 m0 = some (r9, m9) → Go Γ b (sg ad nt z) 0 0 4 [(0, .ref (ad 63)), (1, .int v1), (2, .int v2), (3, .int v3)] [] m0) (v1 : Int32) (v3 : Int32) (s0 : Int32) (s1 : Int32) (m0 : Mem) (hf : X10_hoardOf_27 k4 v1 v3 s0 s1 m0 = some (r9, m9)) : Go Γ b (sg ad nt z) 0 0 27 [(0, .ref (ad 63)), (1, .int v1), (3, .int v3)] [.int s0, .int s1] m0 := by
  refine g_ior X dX10_hoardOf_27 ?_
  refine g_istore_n X (lv' := [(2, .int (s1 ||| s0)), (0, .ref (ad 63)), (1, .int v1), (3, .int v3)]) dX10_hoardOf_28 rfl (by decide) rfl ?_
  refine g_iinc X 3 (v := v3 + (1 : Int32)) (lv' := [(3, .int (v3 + (1 : Int32))), (2, .int (s1 ||| s0)), (0, .ref (ad 63)), (1, .int v1)]) dX10_hoardOf_29 rfl rfl (by decide) rfl ?_
  refine g_goto X (tgt := 4) dX10_hoardOf_32 (by decide) ?_
  refine g_pick [2, 3, 1, 0] (lv' := [(0, .ref (ad 63)), (1, .int v1), (2, .int (s1 ||| s0)), (3, .int (v3 + (1 : Int32)))]) rfl ?_
  exact hk4 v1 (s1 ||| s0) (v3 + (1 : Int32)) m0 hf
set_option maxRecDepth 100000 in
set_option maxHeartbeats 4000000 in
theorem w_X10_hoardOf_4 {Γ : Ga} {b : Nat} {ad : Nat → Nat} {nt : Nat} {z : Nat → Nat} {r9 : Int32} {m9 : Mem} (X : Cx Γ b cX10_hoardOf 4 RX10 (some .int) rmX10_hoardOf) (hret : ∀ (pc : Nat) (lv : List (Nat × Value)), decode cX10_hoardOf pc = .ok (.ireturn, 1) → narrow .int (.int r9) = .int r9 → Go Γ b (sg ad nt z) 0 0 pc lv [.int r9] m9) : ∀ (n : Nat) (v1 : Int32) (v2 : Int32) (v3 : Int32) (m0 : Mem), X10_hoardOf_4 n v1 v2 v3 m0 = some (r9, m9) → Go Γ b (sg ad nt z) 0 0 4 [(0, .ref (ad 63)), (1, .int v1), (2, .int v2), (3, .int v3)] [] m0 := by
  intro n
  induction n with
  | zero =>
    intro v1 v2 v3 m0 hf
    cases hf
  | succ n ih =>
    intro v1 v2 v3 m0 hf
    refine g_iload_n X 3 dX10_hoardOf_4 rfl rfl ?_
    refine g_aload_n X 0 dX10_hoardOf_5 rfl rfl ?_
    refine g_getI X 63 9 11 dX10_hoardOf_6 (sgN (by decide)) rfl (by decide) rfl iw_X10 (by decide) rfl q_fl_X10_73 ?_
    refine g_icmp_ge X (tgt := 35) dX10_hoardOf_9 (by decide) (fun c9 => ?_) (fun c9 => ?_)
    · have hf := it c9 hf
      refine g_aload_n X 0 dX10_hoardOf_35 rfl rfl ?_
      refine g_iload_n X 1 dX10_hoardOf_36 rfl rfl ?_
      obtain ⟨r37, m37, h37, hf⟩ := bi_i hf
      refine g_eVI X 63 9 [.int v1] kV_X10_351 (c_X10_knows h37) dX10_hoardOf_37 rfl rfl (sgN (by decide)) rfl (by decide) rfl rfl ⟨(Nat.le_of_ble_eq_true rfl), (Nat.le_of_ble_eq_true rfl)⟩ ⟨rfl, rfl⟩ ⟨(Nat.zero_le _), (Nat.zero_le _)⟩ (Nat.le_of_ble_eq_true rfl) ?_
      refine g_iload_n X 2 dX10_hoardOf_40 rfl rfl ?_
      refine g_iconst X (v := -1) dX10_hoardOf_41 (by decide) ?_
      refine g_ixor X dX10_hoardOf_42 ?_
      refine g_iand X dX10_hoardOf_43 ?_
      obtain ⟨rfl, rfl⟩ := lf2 hf
      exact hret 44 _ dX10_hoardOf_44 rfl
    · have hf := ie c9 hf
      refine g_iload_n X 2 dX10_hoardOf_12 rfl rfl ?_
      refine g_iload_n X 3 dX10_hoardOf_13 rfl rfl ?_
      refine g_iload_n X 1 dX10_hoardOf_14 rfl rfl ?_
      refine g_icmp_ne X (tgt := 22) dX10_hoardOf_15 (by decide) (fun c15 => ?_) (fun c15 => ?_)
      · have hf := ie c15 hf
        refine g_aload_n X 0 dX10_hoardOf_22 rfl rfl ?_
        refine g_iload_n X 3 dX10_hoardOf_23 rfl rfl ?_
        obtain ⟨r24, m24, h24, hf⟩ := bi_i hf
        refine g_eVI X 63 9 [.int v3] kV_X10_351 (c_X10_knows h24) dX10_hoardOf_24 rfl rfl (sgN (by decide)) rfl (by decide) rfl rfl ⟨(Nat.le_of_ble_eq_true rfl), (Nat.le_of_ble_eq_true rfl)⟩ ⟨rfl, rfl⟩ ⟨(Nat.zero_le _), (Nat.zero_le _)⟩ (Nat.le_of_ble_eq_true rfl) ?_
        refine g_pick [0, 1, 3] (lv' := [(0, .ref (ad 63)), (1, .int v1), (3, .int v3)]) rfl ?_
        exact w_X10_hoardOf_27 X hret ih v1 v3 r24 v2 m24 hf
      · have hf := it c15 hf
        refine g_iconst X (v := 0) dX10_hoardOf_18 (by decide) ?_
        refine g_goto X (tgt := 27) dX10_hoardOf_19 (by decide) ?_
        refine g_pick [0, 1, 3] (lv' := [(0, .ref (ad 63)), (1, .int v1), (3, .int v3)]) rfl ?_
        exact w_X10_hoardOf_27 X hret ih v1 v3 (0 : Int32) v2 m0 hf
set_option maxRecDepth 100000 in
set_option maxHeartbeats 4000000 in
theorem c_X10_hoardOf {l : Launch} {G : GG} {b : Nat} {ad : Nat → Nat} {nt : Nat} {z : Nat → Nat} {p0 : Int32} {m0 : Mem} {r9 : Int32} {m9 : Mem} (hf : X10_hoardOf p0 m0 = some (r9, m9)) : MtI l yX10_hoardOf cX10_hoardOf 4 (some .int) rmX10_hoardOf G b (sg ad nt z) m0 [.ref (ad 63), .int p0] (pEI r9 (sg ad nt z) m9) := by
  refine mtI_of (by decide) (Nat.le_of_ble_eq_true rfl) .int rfl (fun Γ hG X hnm hr => ?_)
  have hret : ∀ (pc : Nat) (lv : List (Nat × Value)), decode cX10_hoardOf pc = .ok (.ireturn, 1) → narrow .int (.int r9) = .int r9 → Go Γ b (sg ad nt z) 0 0 pc lv [.int r9] m9 := fun pc lv d hn => hr pc lv _ _ _ d ⟨rfl, rfl, rfl⟩ hn
  show Go Γ b (sg ad nt z) 0 0 0 [(0, .ref (ad 63)), (1, .int p0)] [] m0
  refine g_iconst X (v := 0) dX10_hoardOf_0 (by decide) ?_
  refine g_istore_n X (lv' := [(2, .int (0 : Int32)), (0, .ref (ad 63)), (1, .int p0)]) dX10_hoardOf_1 rfl (by decide) rfl ?_
  refine g_iconst X (v := 0) dX10_hoardOf_2 (by decide) ?_
  refine g_istore_n X (lv' := [(3, .int (0 : Int32)), (2, .int (0 : Int32)), (0, .ref (ad 63)), (1, .int p0)]) dX10_hoardOf_3 rfl (by decide) rfl ?_
  refine g_pick [2, 3, 1, 0] (lv' := [(0, .ref (ad 63)), (1, .int p0), (2, .int (0 : Int32)), (3, .int (0 : Int32))]) rfl ?_
  exact w_X10_hoardOf_4 X hret 10000 p0 (0 : Int32) (0 : Int32) m0 hf

def X10_walks_140 (k34 : Int32 → Int32 → Mem → Option (Mem)) (k43 : Int32 → Int32 → Int32 → Mem → Option (Mem)) (v1 : Int32) (v3 : Int32) (v4 : Int32) (m0 : Mem) : Option (Mem) :=
  k43 v1 v3 (v4 + (1 : Int32)) m0
def X10_walks_43 (k34 : Int32 → Int32 → Mem → Option (Mem)) : Nat → Int32 → Int32 → Int32 → Mem → Option (Mem)
  | 0, _, _, _, _ => none
  | n + 1, v1, v3, v4, m0 =>
    if (64 : Int32) ≤ v4 then
      k34 v1 v3 m0
    else
      if inn (v4 / (8 : Int32)) 8 then
      if inn v4 64 then
      if inn v4 64 then
      if (m0.1 67 v4.toNatClampNeg) ≤ 0 then
        X10_walks_140 k34 (X10_walks_43 k34 n) v1 v3 v4 m0
      else
        bi (X10_knows v1 m0) fun r89 m89 =>
        if ((r89 >>> ((v4 - v4 / (8 : Int32) * (8 : Int32)) &&& 31)) &&& (1 : Int32)) = (1 : Int32) then
          if inn (v4 / (8 : Int32)) 8 then
          if (999 : Int32) ≤ (m89.1 72 (v4 / (8 : Int32)).toNatClampNeg) then
            X10_walks_140 k34 (X10_walks_43 k34 n) v1 v3 v4 m89
          else
            if inn (v4 - v4 / (8 : Int32) * (8 : Int32)) 8 then
            if (m89.1 72 (v4 - v4 / (8 : Int32) * (8 : Int32)).toNatClampNeg) ≤ ((m0.1 72 (v4 / (8 : Int32)).toNatClampNeg) + (m0.1 67 v4.toNatClampNeg)) then
              X10_walks_140 k34 (X10_walks_43 k34 n) v1 v3 v4 m89
            else
              if inn (v4 - v4 / (8 : Int32) * (8 : Int32)) 8 then
              X10_walks_140 k34 (X10_walks_43 k34 n) v1 (1 : Int32) v4 (pI m89 72 (v4 - v4 / (8 : Int32) * (8 : Int32)).toNatClampNeg ((m0.1 72 (v4 / (8 : Int32)).toNatClampNeg) + (m0.1 67 v4.toNatClampNeg)))
              else none
            else none
          else none
        else
          X10_walks_140 k34 (X10_walks_43 k34 n) v1 v3 v4 m89
      else none
      else none
      else none
def X10_walks_34 : Nat → Int32 → Int32 → Mem → Option (Mem)
  | 0, _, _, _ => none
  | n + 1, v1, v3, m0 =>
    if v3 = 0 then
      some m0
    else
      X10_walks_43 (X10_walks_34 n) 10000 v1 (0 : Int32) (0 : Int32) m0
def X10_walks_25 (k2 : Int32 → Int32 → Int32 → Mem → Option (Mem)) (v1 : Int32) (v2 : Int32) (v3 : Int32) (s0 : Int32) (s1 : Int32) (m0 : Mem) : Option (Mem) :=
  if inn s1 8 then
  k2 v1 v2 (v3 + (1 : Int32)) (pI m0 72 s1.toNatClampNeg s0)
  else none
def X10_walks_2 : Nat → Int32 → Int32 → Int32 → Mem → Option (Mem)
  | 0, _, _, _, _ => none
  | n + 1, v1, v2, v3, m0 =>
    if (8 : Int32) ≤ v3 then
      X10_walks_34 10000 v1 (1 : Int32) m0
    else
      if v3 = v2 then
        X10_walks_25 (X10_walks_2 n) v1 v2 v3 (0 : Int32) v3 m0
      else
        X10_walks_25 (X10_walks_2 n) v1 v2 v3 (999 : Int32) v3 m0
def X10_walks (p0 : Int32) (p1 : Int32) (m0 : Mem) : Option (Mem) :=
  X10_walks_2 10000 p0 p1 (0 : Int32) m0
abbrev rmX10_walks : Room := { frames := 1, cells := 0, slots := 0, locals := 21 }
set_option maxRecDepth 100000 in
set_option maxHeartbeats 4000000 in
theorem w_X10_walks_140 {Γ : Ga} {b : Nat} {ad : Nat → Nat} {nt : Nat} {z : Nat → Nat} {k34 : Int32 → Int32 → Mem → Option (Mem)} {k43 : Int32 → Int32 → Int32 → Mem → Option (Mem)} {m9 : Mem} (X : Cx Γ b cX10_walks 7 RX10 (none) rmX10_walks) (hret : ∀ (pc : Nat) (lv : List (Nat × Value)), decode cX10_walks pc = .ok (.return_, 1) → Go Γ b (sg ad nt z) 0 0 pc lv [] m9) (hk34 : ∀ (v1 : Int32) (v3 : Int32) (m0 : Mem), k34 v1 v3 m0 = some m9 → Go Γ b (sg ad nt z) 0 0 34 [(0, .ref (ad 63)), (1, .int v1), (3, .int v3)] [] m0) (hk43 : ∀ (v1 : Int32) (v3 : Int32) (v4 : Int32) (m0 : Mem), k43 v1 v3 v4 m0 = some m9 → Go Γ b (sg ad nt z) 0 0 43 [(0, .ref (ad 63)), (1, .int v1), (3, .int v3), (4, .int v4)] [] m0) (v1 : Int32) (v3 : Int32) (v4 : Int32) (m0 : Mem) (hf : X10_walks_140 k34 k43 v1 v3 v4 m0 = some m9) : Go Γ b (sg ad nt z) 0 0 140 [(0, .ref (ad 63)), (1, .int v1), (3, .int v3), (4, .int v4)] [] m0 := by
  refine g_iinc X 3 (v := v4 + (1 : Int32)) (lv' := [(4, .int (v4 + (1 : Int32))), (0, .ref (ad 63)), (1, .int v1), (3, .int v3)]) dX10_walks_140 rfl rfl (by decide) rfl ?_
  refine g_goto X (tgt := 43) dX10_walks_143 (by decide) ?_
  refine g_pick [1, 2, 3, 0] (lv' := [(0, .ref (ad 63)), (1, .int v1), (3, .int v3), (4, .int (v4 + (1 : Int32)))]) rfl ?_
  exact hk43 v1 v3 (v4 + (1 : Int32)) m0 hf
set_option maxRecDepth 100000 in
set_option maxHeartbeats 4000000 in
theorem w_X10_walks_43 {Γ : Ga} {b : Nat} {ad : Nat → Nat} {nt : Nat} {z : Nat → Nat} {k34 : Int32 → Int32 → Mem → Option (Mem)} {m9 : Mem} (X : Cx Γ b cX10_walks 7 RX10 (none) rmX10_walks) (hret : ∀ (pc : Nat) (lv : List (Nat × Value)), decode cX10_walks pc = .ok (.return_, 1) → Go Γ b (sg ad nt z) 0 0 pc lv [] m9) (hk34 : ∀ (v1 : Int32) (v3 : Int32) (m0 : Mem), k34 v1 v3 m0 = some m9 → Go Γ b (sg ad nt z) 0 0 34 [(0, .ref (ad 63)), (1, .int v1), (3, .int v3)] [] m0) : ∀ (n : Nat) (v1 : Int32) (v3 : Int32) (v4 : Int32) (m0 : Mem), X10_walks_43 k34 n v1 v3 v4 m0 = some m9 → Go Γ b (sg ad nt z) 0 0 43 [(0, .ref (ad 63)), (1, .int v1), (3, .int v3), (4, .int v4)] [] m0 := by
  intro n
  induction n with
  | zero =>
    intro v1 v3 v4 m0 hf
    cases hf
  | succ n ih =>
    intro v1 v3 v4 m0 hf
    refine g_iload X 3 dX10_walks_43 rfl ?_
    refine g_bipush X (v := 64) dX10_walks_45 (by decide) ?_
    refine g_icmp_ge X (tgt := 146) dX10_walks_47 (by decide) (fun c47 => ?_) (fun c47 => ?_)
    · have hf := it c47 hf
      refine g_goto X (tgt := 34) dX10_walks_146 (by decide) ?_
      refine g_pick [0, 1, 2] (lv' := [(0, .ref (ad 63)), (1, .int v1), (3, .int v3)]) rfl ?_
      exact hk34 v1 v3 m0 hf
    · have hf := ie c47 hf
      refine g_iload X 3 dX10_walks_50 rfl ?_
      refine g_bipush X (v := 8) dX10_walks_52 (by decide) ?_
      refine g_irem X dX10_walks_54 (by decide) ?_
      refine g_istore X (lv' := [(5, .int (v4 - v4 / (8 : Int32) * (8 : Int32))), (0, .ref (ad 63)), (1, .int v1), (3, .int v3), (4, .int v4)]) dX10_walks_55 (by decide) rfl ?_
      refine g_aload_n X 1 dX10_walks_57 rfl rfl ?_
      refine g_getr X (x := ad 72) 63 9 30 dX10_walks_58 (sgN (by decide)) rfl (by decide) rfl iw_X10 (by decide) rfl q_fl_X10_38 rfl ?_
      refine g_iload X 4 dX10_walks_61 rfl ?_
      refine g_bipush X (v := 8) dX10_walks_63 (by decide) ?_
      refine g_idiv X dX10_walks_65 (by decide) ?_
      obtain ⟨h66, hf⟩ := grd hf
      refine g_iald X 72 (n := 8) dX10_walks_66 (sgN (by decide)) rfl rfl h66 ?_
      refine g_aload_n X 1 dX10_walks_67 rfl rfl ?_
      refine g_getr X (x := ad 67) 63 9 8 dX10_walks_68 (sgN (by decide)) rfl (by decide) rfl iw_X10 (by decide) rfl q_fl_X10_23 rfl ?_
      refine g_iload X 4 dX10_walks_71 rfl ?_
      obtain ⟨h73, hf⟩ := grd hf
      refine g_iald X 67 (n := 64) dX10_walks_73 (sgN (by decide)) rfl rfl h73 ?_
      refine g_iadd X dX10_walks_74 ?_
      refine g_istore X (lv' := [(6, .int ((m0.1 72 (v4 / (8 : Int32)).toNatClampNeg) + (m0.1 67 v4.toNatClampNeg))), (5, .int (v4 - v4 / (8 : Int32) * (8 : Int32))), (0, .ref (ad 63)), (1, .int v1), (3, .int v3), (4, .int v4)]) dX10_walks_75 (by decide) rfl ?_
      refine g_aload_n X 2 dX10_walks_77 rfl rfl ?_
      refine g_getr X (x := ad 67) 63 9 8 dX10_walks_78 (sgN (by decide)) rfl (by decide) rfl iw_X10 (by decide) rfl q_fl_X10_23 rfl ?_
      refine g_iload X 5 dX10_walks_81 rfl ?_
      obtain ⟨h83, hf⟩ := grd hf
      refine g_iald X 67 (n := 64) dX10_walks_83 (sgN (by decide)) rfl rfl h83 ?_
      refine g_if_le X (tgt := 140) dX10_walks_84 (by decide) (fun c84 => ?_) (fun c84 => ?_)
      · have hf := it c84 hf
        refine g_pick [2, 3, 4, 5] (lv' := [(0, .ref (ad 63)), (1, .int v1), (3, .int v3), (4, .int v4)]) rfl ?_
        exact w_X10_walks_140 X hret hk34 ih v1 v3 v4 m0 hf
      · have hf := ie c84 hf
        refine g_aload_n X 2 dX10_walks_87 rfl rfl ?_
        refine g_iload_n X 3 dX10_walks_88 rfl rfl ?_
        obtain ⟨r89, m89, h89, hf⟩ := bi_i hf
        refine g_eVI X 63 9 [.int v1] kV_X10_351 (c_X10_knows h89) dX10_walks_89 rfl rfl (sgN (by decide)) rfl (by decide) rfl rfl ⟨(Nat.le_of_ble_eq_true rfl), (Nat.le_of_ble_eq_true rfl)⟩ ⟨rfl, rfl⟩ ⟨(Nat.zero_le _), (Nat.zero_le _)⟩ (Nat.le_of_ble_eq_true rfl) ?_
        refine g_iload X 1 dX10_walks_92 rfl ?_
        refine g_ishr X dX10_walks_94 ?_
        refine g_iconst X (v := 1) dX10_walks_95 (by decide) ?_
        refine g_iand X dX10_walks_96 ?_
        refine g_iconst X (v := 1) dX10_walks_97 (by decide) ?_
        refine g_icmp_ne X (tgt := 140) dX10_walks_98 (by decide) (fun c98 => ?_) (fun c98 => ?_)
        · have hf := ie c98 hf
          refine g_pick [2, 3, 4, 5] (lv' := [(0, .ref (ad 63)), (1, .int v1), (3, .int v3), (4, .int v4)]) rfl ?_
          exact w_X10_walks_140 X hret hk34 ih v1 v3 v4 m89 hf
        · have hf := it c98 hf
          refine g_aload_n X 2 dX10_walks_101 rfl rfl ?_
          refine g_getr X (x := ad 72) 63 9 30 dX10_walks_102 (sgN (by decide)) rfl (by decide) rfl iw_X10 (by decide) rfl q_fl_X10_38 rfl ?_
          refine g_iload X 5 dX10_walks_105 rfl ?_
          refine g_bipush X (v := 8) dX10_walks_107 (by decide) ?_
          refine g_idiv X dX10_walks_109 (by decide) ?_
          obtain ⟨h110, hf⟩ := grd hf
          refine g_iald X 72 (n := 8) dX10_walks_110 (sgN (by decide)) rfl rfl h110 ?_
          refine g_sipush X (v := 999) dX10_walks_111 (by decide) ?_
          refine g_icmp_ge X (tgt := 140) dX10_walks_114 (by decide) (fun c114 => ?_) (fun c114 => ?_)
          · have hf := it c114 hf
            refine g_pick [2, 3, 4, 5] (lv' := [(0, .ref (ad 63)), (1, .int v1), (3, .int v3), (4, .int v4)]) rfl ?_
            exact w_X10_walks_140 X hret hk34 ih v1 v3 v4 m89 hf
          · have hf := ie c114 hf
            refine g_iload X 0 dX10_walks_117 rfl ?_
            refine g_aload_n X 2 dX10_walks_119 rfl rfl ?_
            refine g_getr X (x := ad 72) 63 9 30 dX10_walks_120 (sgN (by decide)) rfl (by decide) rfl iw_X10 (by decide) rfl q_fl_X10_38 rfl ?_
            refine g_iload X 1 dX10_walks_123 rfl ?_
            obtain ⟨h125, hf⟩ := grd hf
            refine g_iald X 72 (n := 8) dX10_walks_125 (sgN (by decide)) rfl rfl h125 ?_
            refine g_icmp_ge X (tgt := 140) dX10_walks_126 (by decide) (fun c126 => ?_) (fun c126 => ?_)
            · have hf := it c126 hf
              refine g_pick [2, 3, 4, 5] (lv' := [(0, .ref (ad 63)), (1, .int v1), (3, .int v3), (4, .int v4)]) rfl ?_
              exact w_X10_walks_140 X hret hk34 ih v1 v3 v4 m89 hf
            · have hf := ie c126 hf
              refine g_aload_n X 2 dX10_walks_129 rfl rfl ?_
              refine g_getr X (x := ad 72) 63 9 30 dX10_walks_130 (sgN (by decide)) rfl (by decide) rfl iw_X10 (by decide) rfl q_fl_X10_38 rfl ?_
              refine g_iload X 1 dX10_walks_133 rfl ?_
              refine g_iload X 0 dX10_walks_135 rfl ?_
              obtain ⟨h137, hf⟩ := grd hf
              refine g_iast X 72 (n := 8) dX10_walks_137 (sgN (by decide)) rfl rfl h137 ?_
              refine g_iconst X (v := 1) dX10_walks_138 (by decide) ?_
              refine g_istore_n X (lv' := [(3, .int (1 : Int32)), (6, .int ((m0.1 72 (v4 / (8 : Int32)).toNatClampNeg) + (m0.1 67 v4.toNatClampNeg))), (5, .int (v4 - v4 / (8 : Int32) * (8 : Int32))), (0, .ref (ad 63)), (1, .int v1), (4, .int v4)]) dX10_walks_139 rfl (by decide) rfl ?_
              refine g_pick [3, 4, 0, 5] (lv' := [(0, .ref (ad 63)), (1, .int v1), (3, .int (1 : Int32)), (4, .int v4)]) rfl ?_
              exact w_X10_walks_140 X hret hk34 ih v1 (1 : Int32) v4 (pI m89 72 (v4 - v4 / (8 : Int32) * (8 : Int32)).toNatClampNeg ((m0.1 72 (v4 / (8 : Int32)).toNatClampNeg) + (m0.1 67 v4.toNatClampNeg))) hf
set_option maxRecDepth 100000 in
set_option maxHeartbeats 4000000 in
theorem w_X10_walks_34 {Γ : Ga} {b : Nat} {ad : Nat → Nat} {nt : Nat} {z : Nat → Nat} {m9 : Mem} (X : Cx Γ b cX10_walks 7 RX10 (none) rmX10_walks) (hret : ∀ (pc : Nat) (lv : List (Nat × Value)), decode cX10_walks pc = .ok (.return_, 1) → Go Γ b (sg ad nt z) 0 0 pc lv [] m9) : ∀ (n : Nat) (v1 : Int32) (v3 : Int32) (m0 : Mem), X10_walks_34 n v1 v3 m0 = some m9 → Go Γ b (sg ad nt z) 0 0 34 [(0, .ref (ad 63)), (1, .int v1), (3, .int v3)] [] m0 := by
  intro n
  induction n with
  | zero =>
    intro v1 v3 m0 hf
    cases hf
  | succ n ih =>
    intro v1 v3 m0 hf
    refine g_iload_n X 2 dX10_walks_34 rfl rfl ?_
    refine g_if_eq X (tgt := 149) dX10_walks_35 (by decide) (fun c35 => ?_) (fun c35 => ?_)
    · have hf := it c35 hf
      obtain rfl := lf1 hf
      exact hret 149 _ dX10_walks_149
    · have hf := ie c35 hf
      refine g_iconst X (v := 0) dX10_walks_38 (by decide) ?_
      refine g_istore_n X (lv' := [(3, .int (0 : Int32)), (0, .ref (ad 63)), (1, .int v1)]) dX10_walks_39 rfl (by decide) rfl ?_
      refine g_iconst X (v := 0) dX10_walks_40 (by decide) ?_
      refine g_istore X (lv' := [(4, .int (0 : Int32)), (3, .int (0 : Int32)), (0, .ref (ad 63)), (1, .int v1)]) dX10_walks_41 (by decide) rfl ?_
      refine g_pick [2, 3, 1, 0] (lv' := [(0, .ref (ad 63)), (1, .int v1), (3, .int (0 : Int32)), (4, .int (0 : Int32))]) rfl ?_
      exact w_X10_walks_43 X hret ih 10000 v1 (0 : Int32) (0 : Int32) m0 hf
set_option maxRecDepth 100000 in
set_option maxHeartbeats 4000000 in
theorem w_X10_walks_25 {Γ : Ga} {b : Nat} {ad : Nat → Nat} {nt : Nat} {z : Nat → Nat} {k2 : Int32 → Int32 → Int32 → Mem → Option (Mem)} {m9 : Mem} (X : Cx Γ b cX10_walks 7 RX10 (none) rmX10_walks) (hret : ∀ (pc : Nat) (lv : List (Nat × Value)), decode cX10_walks pc = .ok (.return_, 1) → Go Γ b (sg ad nt z) 0 0 pc lv [] m9) (hk2 : ∀ (v1 : Int32) (v2 : Int32) (v3 : Int32) (m0 : Mem), k2 v1 v2 v3 m0 = some m9 → Go Γ b (sg ad nt z) 0 0 2 [(0, .ref (ad 63)), (1, .int v1), (2, .int v2), (3, .int v3)] [] m0) (v1 : Int32) (v2 : Int32) (v3 : Int32) (s0 : Int32) (s1 : Int32) (m0 : Mem) (hf : X10_walks_25 k2 v1 v2 v3 s0 s1 m0 = some m9) : Go Γ b (sg ad nt z) 0 0 25 [(0, .ref (ad 63)), (1, .int v1), (2, .int v2), (3, .int v3)] [.int s0, .int s1, .ref (ad 72)] m0 := by
  obtain ⟨h25, hf⟩ := grd hf
  refine g_iast X 72 (n := 8) dX10_walks_25 (sgN (by decide)) rfl rfl h25 ?_
  refine g_iinc X 3 (v := v3 + (1 : Int32)) (lv' := [(3, .int (v3 + (1 : Int32))), (0, .ref (ad 63)), (1, .int v1), (2, .int v2)]) dX10_walks_26 rfl rfl (by decide) rfl ?_
  refine g_goto X (tgt := 2) dX10_walks_29 (by decide) ?_
  refine g_pick [1, 2, 3, 0] (lv' := [(0, .ref (ad 63)), (1, .int v1), (2, .int v2), (3, .int (v3 + (1 : Int32)))]) rfl ?_
  exact hk2 v1 v2 (v3 + (1 : Int32)) (pI m0 72 s1.toNatClampNeg s0) hf
set_option maxRecDepth 100000 in
set_option maxHeartbeats 4000000 in
theorem w_X10_walks_2 {Γ : Ga} {b : Nat} {ad : Nat → Nat} {nt : Nat} {z : Nat → Nat} {m9 : Mem} (X : Cx Γ b cX10_walks 7 RX10 (none) rmX10_walks) (hret : ∀ (pc : Nat) (lv : List (Nat × Value)), decode cX10_walks pc = .ok (.return_, 1) → Go Γ b (sg ad nt z) 0 0 pc lv [] m9) : ∀ (n : Nat) (v1 : Int32) (v2 : Int32) (v3 : Int32) (m0 : Mem), X10_walks_2 n v1 v2 v3 m0 = some m9 → Go Γ b (sg ad nt z) 0 0 2 [(0, .ref (ad 63)), (1, .int v1), (2, .int v2), (3, .int v3)] [] m0 := by
  intro n
  induction n with
  | zero =>
    intro v1 v2 v3 m0 hf
    cases hf
  | succ n ih =>
    intro v1 v2 v3 m0 hf
    refine g_iload_n X 3 dX10_walks_2 rfl rfl ?_
    refine g_bipush X (v := 8) dX10_walks_3 (by decide) ?_
    refine g_icmp_ge X (tgt := 32) dX10_walks_5 (by decide) (fun c5 => ?_) (fun c5 => ?_)
    · have hf := it c5 hf
      refine g_iconst X (v := 1) dX10_walks_32 (by decide) ?_
      refine g_istore_n X (lv' := [(3, .int (1 : Int32)), (0, .ref (ad 63)), (1, .int v1), (2, .int v2)]) dX10_walks_33 rfl (by decide) rfl ?_
      refine g_pick [1, 2, 0] (lv' := [(0, .ref (ad 63)), (1, .int v1), (3, .int (1 : Int32))]) rfl ?_
      exact w_X10_walks_34 X hret 10000 v1 (1 : Int32) m0 hf
    · have hf := ie c5 hf
      refine g_aload_n X 0 dX10_walks_8 rfl rfl ?_
      refine g_getr X (x := ad 72) 63 9 30 dX10_walks_9 (sgN (by decide)) rfl (by decide) rfl iw_X10 (by decide) rfl q_fl_X10_38 rfl ?_
      refine g_iload_n X 3 dX10_walks_12 rfl rfl ?_
      refine g_iload_n X 3 dX10_walks_13 rfl rfl ?_
      refine g_iload_n X 2 dX10_walks_14 rfl rfl ?_
      refine g_icmp_ne X (tgt := 22) dX10_walks_15 (by decide) (fun c15 => ?_) (fun c15 => ?_)
      · have hf := ie c15 hf
        refine g_sipush X (v := 999) dX10_walks_22 (by decide) ?_
        exact w_X10_walks_25 X hret ih v1 v2 v3 (999 : Int32) v3 m0 hf
      · have hf := it c15 hf
        refine g_iconst X (v := 0) dX10_walks_18 (by decide) ?_
        refine g_goto X (tgt := 25) dX10_walks_19 (by decide) ?_
        exact w_X10_walks_25 X hret ih v1 v2 v3 (0 : Int32) v3 m0 hf
set_option maxRecDepth 100000 in
set_option maxHeartbeats 4000000 in
theorem c_X10_walks {l : Launch} {G : GG} {b : Nat} {ad : Nat → Nat} {nt : Nat} {z : Nat → Nat} {p0 : Int32} {p1 : Int32} {m0 : Mem} {m9 : Mem} (hf : X10_walks p0 p1 m0 = some m9) : MtV l yX10_walks cX10_walks 7 (none) rmX10_walks G b (sg ad nt z) m0 [.ref (ad 63), .int p0, .int p1] (pEV (sg ad nt z) m9) := by
  refine mtV_of (by decide) (Nat.le_of_ble_eq_true rfl) rfl (fun Γ hG X hnm hr => ?_)
  have hret : ∀ (pc : Nat) (lv : List (Nat × Value)), decode cX10_walks pc = .ok (.return_, 1) → Go Γ b (sg ad nt z) 0 0 pc lv [] m9 := fun pc lv d => hr pc lv _ _ d ⟨rfl, rfl⟩
  show Go Γ b (sg ad nt z) 0 0 0 [(0, .ref (ad 63)), (1, .int p0), (2, .int p1)] [] m0
  refine g_iconst X (v := 0) dX10_walks_0 (by decide) ?_
  refine g_istore_n X (lv' := [(3, .int (0 : Int32)), (0, .ref (ad 63)), (1, .int p0), (2, .int p1)]) dX10_walks_1 rfl (by decide) rfl ?_
  refine g_pick [1, 2, 3, 0] (lv' := [(0, .ref (ad 63)), (1, .int p0), (2, .int p1), (3, .int (0 : Int32))]) rfl ?_
  exact w_X10_walks_2 X hret 10000 p0 p1 (0 : Int32) m0 hf

theorem kV_X10_407 : wcV RX10 407 RX10 yX10_walks cX10_walks 7 (none) 2 := ⟨q_ml_X10_407, q_im_yX10_walks, q_se_yX10_walks, q_in_X10, q_co_yX10_walks, by decide +kernel⟩

def X10_reachOf_43 (k19 : Int32 → Int32 → Mem → Option (Int32 × Mem)) (v3 : Int32) (s0 : Int32) (s1 : Int32) (m0 : Mem) : Option (Int32 × Mem) :=
  k19 (s1 ||| (s0 <<< (v3 &&& 31))) (v3 + (1 : Int32)) m0
def X10_reachOf_19 : Nat → Int32 → Int32 → Mem → Option (Int32 × Mem)
  | 0, _, _, _ => none
  | n + 1, v2, v3, m0 =>
    if (8 : Int32) ≤ v3 then
      some (v2, m0)
    else
      if inn v3 8 then
      if (999 : Int32) ≤ (m0.1 72 v3.toNatClampNeg) then
        X10_reachOf_43 (X10_reachOf_19 n) v3 (0 : Int32) v2 m0
      else
        X10_reachOf_43 (X10_reachOf_19 n) v3 (1 : Int32) v2 m0
      else none
def X10_reachOf (p0 : Int32) (m0 : Mem) : Option (Int32 × Mem) :=
  if inn (((5 : Int32) * p0) + (1 : Int32)) 30 then
  bv (X10_walks p0 (m0.1 69 (((5 : Int32) * p0) + (1 : Int32)).toNatClampNeg) m0) fun m12 =>
  X10_reachOf_19 10000 (0 : Int32) (0 : Int32) m12
  else none
abbrev rmX10_reachOf : Room := { frames := 2, cells := 0, slots := 0, locals := 47 }
set_option maxRecDepth 100000 in
set_option maxHeartbeats 4000000 in
theorem w_X10_reachOf_43 {Γ : Ga} {b : Nat} {ad : Nat → Nat} {nt : Nat} {z : Nat → Nat} {k19 : Int32 → Int32 → Mem → Option (Int32 × Mem)} {r9 : Int32} {m9 : Mem} (X : Cx Γ b cX10_reachOf 4 RX10 (some .int) rmX10_reachOf) (hret : ∀ (pc : Nat) (lv : List (Nat × Value)), decode cX10_reachOf pc = .ok (.ireturn, 1) → narrow .int (.int r9) = .int r9 → Go Γ b (sg ad nt z) 0 0 pc lv [.int r9] m9) (hk19 : ∀ (v2 : Int32) (v3 : Int32) (m0 : Mem), k19 v2 v3 m0 = some (r9, m9) → Go Γ b (sg ad nt z) 0 0 19 [(0, .ref (ad 63)), (2, .int v2), (3, .int v3)] [] m0) (v3 : Int32) (s0 : Int32) (s1 : Int32) (m0 : Mem) (hf : X10_reachOf_43 k19 v3 s0 s1 m0 = some (r9, m9)) : Go Γ b (sg ad nt z) 0 0 43 [(0, .ref (ad 63)), (3, .int v3)] [.int s0, .int s1] m0 := by
  refine g_iload_n X 1 dX10_reachOf_43 rfl rfl ?_
  refine g_ishl X dX10_reachOf_44 ?_
  refine g_ior X dX10_reachOf_45 ?_
  refine g_istore_n X (lv' := [(2, .int (s1 ||| (s0 <<< (v3 &&& 31)))), (0, .ref (ad 63)), (3, .int v3)]) dX10_reachOf_46 rfl (by decide) rfl ?_
  refine g_iinc X 2 (v := v3 + (1 : Int32)) (lv' := [(3, .int (v3 + (1 : Int32))), (2, .int (s1 ||| (s0 <<< (v3 &&& 31)))), (0, .ref (ad 63))]) dX10_reachOf_47 rfl rfl (by decide) rfl ?_
  refine g_goto X (tgt := 19) dX10_reachOf_50 (by decide) ?_
  refine g_pick [2, 1, 0] (lv' := [(0, .ref (ad 63)), (2, .int (s1 ||| (s0 <<< (v3 &&& 31)))), (3, .int (v3 + (1 : Int32)))]) rfl ?_
  exact hk19 (s1 ||| (s0 <<< (v3 &&& 31))) (v3 + (1 : Int32)) m0 hf
set_option maxRecDepth 100000 in
set_option maxHeartbeats 4000000 in
theorem w_X10_reachOf_19 {Γ : Ga} {b : Nat} {ad : Nat → Nat} {nt : Nat} {z : Nat → Nat} {r9 : Int32} {m9 : Mem} (X : Cx Γ b cX10_reachOf 4 RX10 (some .int) rmX10_reachOf) (hret : ∀ (pc : Nat) (lv : List (Nat × Value)), decode cX10_reachOf pc = .ok (.ireturn, 1) → narrow .int (.int r9) = .int r9 → Go Γ b (sg ad nt z) 0 0 pc lv [.int r9] m9) : ∀ (n : Nat) (v2 : Int32) (v3 : Int32) (m0 : Mem), X10_reachOf_19 n v2 v3 m0 = some (r9, m9) → Go Γ b (sg ad nt z) 0 0 19 [(0, .ref (ad 63)), (2, .int v2), (3, .int v3)] [] m0 := by
  intro n
  induction n with
  | zero =>
    intro v2 v3 m0 hf
    cases hf
  | succ n ih =>
    intro v2 v3 m0 hf
    refine g_iload_n X 2 dX10_reachOf_19 rfl rfl ?_
    refine g_bipush X (v := 8) dX10_reachOf_20 (by decide) ?_
    refine g_icmp_ge X (tgt := 53) dX10_reachOf_22 (by decide) (fun c22 => ?_) (fun c22 => ?_)
    · have hf := it c22 hf
      refine g_iload_n X 1 dX10_reachOf_53 rfl rfl ?_
      obtain ⟨rfl, rfl⟩ := lf2 hf
      exact hret 54 _ dX10_reachOf_54 rfl
    · have hf := ie c22 hf
      refine g_iload_n X 1 dX10_reachOf_25 rfl rfl ?_
      refine g_aload_n X 0 dX10_reachOf_26 rfl rfl ?_
      refine g_getr X (x := ad 72) 63 9 30 dX10_reachOf_27 (sgN (by decide)) rfl (by decide) rfl iw_X10 (by decide) rfl q_fl_X10_38 rfl ?_
      refine g_iload_n X 2 dX10_reachOf_30 rfl rfl ?_
      obtain ⟨h31, hf⟩ := grd hf
      refine g_iald X 72 (n := 8) dX10_reachOf_31 (sgN (by decide)) rfl rfl h31 ?_
      refine g_sipush X (v := 999) dX10_reachOf_32 (by decide) ?_
      refine g_icmp_ge X (tgt := 42) dX10_reachOf_35 (by decide) (fun c35 => ?_) (fun c35 => ?_)
      · have hf := it c35 hf
        refine g_iconst X (v := 0) dX10_reachOf_42 (by decide) ?_
        refine g_pick [0, 2] (lv' := [(0, .ref (ad 63)), (3, .int v3)]) rfl ?_
        exact w_X10_reachOf_43 X hret ih v3 (0 : Int32) v2 m0 hf
      · have hf := ie c35 hf
        refine g_iconst X (v := 1) dX10_reachOf_38 (by decide) ?_
        refine g_goto X (tgt := 43) dX10_reachOf_39 (by decide) ?_
        refine g_pick [0, 2] (lv' := [(0, .ref (ad 63)), (3, .int v3)]) rfl ?_
        exact w_X10_reachOf_43 X hret ih v3 (1 : Int32) v2 m0 hf
set_option maxRecDepth 100000 in
set_option maxHeartbeats 4000000 in
theorem c_X10_reachOf {l : Launch} {G : GG} {b : Nat} {ad : Nat → Nat} {nt : Nat} {z : Nat → Nat} {p0 : Int32} {m0 : Mem} {r9 : Int32} {m9 : Mem} (hf : X10_reachOf p0 m0 = some (r9, m9)) : MtI l yX10_reachOf cX10_reachOf 4 (some .int) rmX10_reachOf G b (sg ad nt z) m0 [.ref (ad 63), .int p0] (pEI r9 (sg ad nt z) m9) := by
  refine mtI_of (by decide) (Nat.le_of_ble_eq_true rfl) .int rfl (fun Γ hG X hnm hr => ?_)
  have hret : ∀ (pc : Nat) (lv : List (Nat × Value)), decode cX10_reachOf pc = .ok (.ireturn, 1) → narrow .int (.int r9) = .int r9 → Go Γ b (sg ad nt z) 0 0 pc lv [.int r9] m9 := fun pc lv d hn => hr pc lv _ _ _ d ⟨rfl, rfl, rfl⟩ hn
  show Go Γ b (sg ad nt z) 0 0 0 [(0, .ref (ad 63)), (1, .int p0)] [] m0
  refine g_aload_n X 0 dX10_reachOf_0 rfl rfl ?_
  refine g_iload_n X 1 dX10_reachOf_1 rfl rfl ?_
  refine g_aload_n X 0 dX10_reachOf_2 rfl rfl ?_
  refine g_getr X (x := ad 69) 63 9 10 dX10_reachOf_3 (sgN (by decide)) rfl (by decide) rfl iw_X10 (by decide) rfl q_fl_X10_29 rfl ?_
  refine g_iconst X (v := 5) dX10_reachOf_6 (by decide) ?_
  refine g_iload_n X 1 dX10_reachOf_7 rfl rfl ?_
  refine g_imul X dX10_reachOf_8 ?_
  refine g_iconst X (v := 1) dX10_reachOf_9 (by decide) ?_
  refine g_iadd X dX10_reachOf_10 ?_
  obtain ⟨h11, hf⟩ := grd hf
  refine g_iald X 69 (n := 30) dX10_reachOf_11 (sgN (by decide)) rfl rfl h11 ?_
  obtain ⟨m12, h12, hf⟩ := bv_i hf
  refine g_eVV X 63 9 [.int p0, .int (m0.1 69 (((5 : Int32) * p0) + (1 : Int32)).toNatClampNeg)] kV_X10_407 (c_X10_walks h12) dX10_reachOf_12 rfl rfl (sgN (by decide)) rfl (by decide) rfl rfl ⟨(Nat.le_of_ble_eq_true rfl), (Nat.le_of_ble_eq_true rfl)⟩ ⟨rfl, rfl⟩ ⟨(Nat.zero_le _), (Nat.zero_le _)⟩ (Nat.le_of_ble_eq_true rfl) ?_
  refine g_iconst X (v := 0) dX10_reachOf_15 (by decide) ?_
  refine g_istore_n X (lv' := [(2, .int (0 : Int32)), (0, .ref (ad 63)), (1, .int p0)]) dX10_reachOf_16 rfl (by decide) rfl ?_
  refine g_iconst X (v := 0) dX10_reachOf_17 (by decide) ?_
  refine g_istore_n X (lv' := [(3, .int (0 : Int32)), (2, .int (0 : Int32)), (0, .ref (ad 63)), (1, .int p0)]) dX10_reachOf_18 rfl (by decide) rfl ?_
  refine g_pick [2, 1, 0] (lv' := [(0, .ref (ad 63)), (2, .int (0 : Int32)), (3, .int (0 : Int32))]) rfl ?_
  exact w_X10_reachOf_19 X hret 10000 (0 : Int32) (0 : Int32) m12 hf

theorem kV_X10_144 : wcV RX10 144 RX10 yX10_reachOf cX10_reachOf 4 (some .int) 1 := ⟨q_ml_X10_144, q_im_yX10_reachOf, q_se_yX10_reachOf, q_in_X10, q_co_yX10_reachOf, by decide +kernel⟩

theorem kV_X10_141 : wcV RX10 141 RX10 yX10_hoardOf cX10_hoardOf 4 (some .int) 1 := ⟨q_ml_X10_141, q_im_yX10_hoardOf, q_se_yX10_hoardOf, q_in_X10, q_co_yX10_hoardOf, by decide +kernel⟩

theorem kV_X10_137 : wcV RX10 137 RX10 yX10_takes1 cX10_takes1 5 (some .boolean) 2 := ⟨q_ml_X10_137, q_im_yX10_takes1, q_se_yX10_takes1, q_in_X10, q_co_yX10_takes1, by decide +kernel⟩

theorem kV_X10_134 : wcV RX10 134 RX10 yX10_timeOf cX10_timeOf 5 (some .int) 2 := ⟨q_ml_X10_134, q_im_yX10_timeOf, q_se_yX10_timeOf, q_in_X10, q_co_yX10_timeOf, by decide +kernel⟩

theorem kV_X10_131 : wcV RX10 131 RX10 yX10_worthOf cX10_worthOf 6 (some .int) 2 := ⟨q_ml_X10_131, q_im_yX10_worthOf, q_se_yX10_worthOf, q_in_X10, q_co_yX10_worthOf, by decide +kernel⟩

theorem kV_X10_84 : wcV RX10 84 RX10 yX10_isOne cX10_isOne 2 (some .boolean) 1 := ⟨q_ml_X10_84, q_im_yX10_isOne, q_se_yX10_isOne, q_in_X10, q_co_yX10_isOne, by decide +kernel⟩

def X10_told_79 (v1 : Int32) (v2 : Int32) (v3 : Int32) (m0 : Mem) : Option (Int32 × Mem) :=
  if v3 = 0 then
    if (6 : Int32) ≤ v2 then
      if v2 = (6 : Int32) then
        if inn (((5 : Int32) * v1) + (4 : Int32)) 30 then
        some (m0.1 69 (((5 : Int32) * v1) + (4 : Int32)).toNatClampNeg, m0)
        else none
      else
        if v2 = (7 : Int32) then
          bi (X10_hoardOf v1 m0) fun r208 m208 =>
          some (r208, m208)
        else
          bi (X10_reachOf v1 m0) fun r216 m216 =>
          some (r216, m216)
    else
      if v2 = 0 then
        some (m0.1 63 7, m0)
      else
        if (5 : Int32) ≤ v2 then
          if inn v1 6 then
          some (m0.1 68 v1.toNatClampNeg, m0)
          else none
        else
          if inn ((((5 : Int32) * v1) + v2) - (1 : Int32)) 30 then
          some (m0.1 69 ((((5 : Int32) * v1) + v2) - (1 : Int32)).toNatClampNeg, m0)
          else none
  else
    if (20 : Int32) ≤ v2 then
      if (30 : Int32) ≤ v2 then
        bi (X10_takes1 v1 (v2 - (30 : Int32)) m0) fun r125 m125 =>
        if r125 = 0 then
          some ((0 : Int32), m125)
        else
          some ((1 : Int32), m125)
      else
        bi (X10_timeOf v1 (v2 - (20 : Int32)) m0) fun r113 m113 =>
        some (r113, m113)
    else
      bi (X10_worthOf v1 (v2 - (10 : Int32)) m0) fun r95 m95 =>
      some (r95, m95)
def X10_told_64 (v1 : Int32) (v2 : Int32) (v3 : Int32) (m0 : Mem) : Option (Int32 × Mem) :=
  if v2 ≤ 0 then
    X10_told_79 v1 v2 v3 m0
  else
    bi (X10_isOne v1 m0) fun r70 m70 =>
    if r70 = 0 then
      some ((-2 : Int32), m70)
    else
      X10_told_79 v1 v2 v3 m70
def X10_told_47 (v1 : Int32) (v2 : Int32) (s0 : Int32) (m0 : Mem) : Option (Int32 × Mem) :=
  bi (X10_in v2.toInt64 (0 : Int64) (8 : Int64) m0) fun r54 m54 =>
  if r54 = 0 then
    if s0 = 0 then
      some ((-2 : Int32), m54)
    else
      X10_told_64 v1 v2 s0 m54
  else
    X10_told_64 v1 v2 s0 m54
def X10_told_42 (v1 : Int32) (v2 : Int32) (m0 : Mem) : Option (Int32 × Mem) :=
  X10_told_47 v1 v2 (1 : Int32) m0
def X10_told (p0 : Int32) (p1 : Int32) (m0 : Mem) : Option (Int32 × Mem) :=
  bi (X10_in p1.toInt64 (10 : Int64) (17 : Int64) m0) fun r8 m8 =>
  if r8 = 0 then
    bi (X10_in p1.toInt64 (20 : Int64) (27 : Int64) m8) fun r22 m22 =>
    if r22 = 0 then
      bi (X10_in p1.toInt64 (30 : Int64) (37 : Int64) m22) fun r36 m36 =>
      if r36 = 0 then
        X10_told_47 p0 p1 (0 : Int32) m36
      else
        X10_told_42 p0 p1 m36
    else
      X10_told_42 p0 p1 m22
  else
    X10_told_42 p0 p1 m8
abbrev rmX10_told : Room := { frames := 44, cells := 0, slots := 0, locals := 979 }
set_option maxRecDepth 100000 in
set_option maxHeartbeats 4000000 in
theorem w_X10_told_79 {Γ : Ga} {b : Nat} {ad : Nat → Nat} {nt : Nat} {z : Nat → Nat} {r9 : Int32} {m9 : Mem} (X : Cx Γ b cX10_told 4 RX10 (some .int) rmX10_told) (hret : ∀ (pc : Nat) (lv : List (Nat × Value)), decode cX10_told pc = .ok (.ireturn, 1) → narrow .int (.int r9) = .int r9 → Go Γ b (sg ad nt z) 0 0 pc lv [.int r9] m9) (v1 : Int32) (v2 : Int32) (v3 : Int32) (m0 : Mem) (hf : X10_told_79 v1 v2 v3 m0 = some (r9, m9)) : Go Γ b (sg ad nt z) 0 0 79 [(0, .ref (ad 63)), (1, .int v1), (2, .int v2), (3, .int v3)] [] m0 := by
  refine g_iload_n X 3 dX10_told_79 rfl rfl ?_
  refine g_if_eq X (tgt := 137) dX10_told_80 (by decide) (fun c80 => ?_) (fun c80 => ?_)
  · have hf := it c80 hf
    refine g_iload_n X 2 dX10_told_137 rfl rfl ?_
    refine g_bipush X (v := 6) dX10_told_138 (by decide) ?_
    refine g_icmp_ge X (tgt := 181) dX10_told_140 (by decide) (fun c140 => ?_) (fun c140 => ?_)
    · have hf := it c140 hf
      refine g_iload_n X 2 dX10_told_181 rfl rfl ?_
      refine g_bipush X (v := 6) dX10_told_182 (by decide) ?_
      refine g_icmp_ne X (tgt := 200) dX10_told_184 (by decide) (fun c184 => ?_) (fun c184 => ?_)
      · have hf := ie c184 hf
        refine g_iload_n X 2 dX10_told_200 rfl rfl ?_
        refine g_bipush X (v := 7) dX10_told_201 (by decide) ?_
        refine g_icmp_ne X (tgt := 214) dX10_told_203 (by decide) (fun c203 => ?_) (fun c203 => ?_)
        · have hf := ie c203 hf
          refine g_aload_n X 0 dX10_told_214 rfl rfl ?_
          refine g_iload_n X 1 dX10_told_215 rfl rfl ?_
          obtain ⟨r216, m216, h216, hf⟩ := bi_i hf
          refine g_eVI X 63 9 [.int v1] kV_X10_144 (c_X10_reachOf h216) dX10_told_216 rfl rfl (sgN (by decide)) rfl (by decide) rfl rfl ⟨(Nat.le_of_ble_eq_true rfl), (Nat.le_of_ble_eq_true rfl)⟩ ⟨rfl, rfl⟩ ⟨(Nat.zero_le _), (Nat.zero_le _)⟩ (Nat.le_of_ble_eq_true rfl) ?_
          obtain ⟨rfl, rfl⟩ := lf2 hf
          exact hret 219 _ dX10_told_219 rfl
        · have hf := it c203 hf
          refine g_aload_n X 0 dX10_told_206 rfl rfl ?_
          refine g_iload_n X 1 dX10_told_207 rfl rfl ?_
          obtain ⟨r208, m208, h208, hf⟩ := bi_i hf
          refine g_eVI X 63 9 [.int v1] kV_X10_141 (c_X10_hoardOf h208) dX10_told_208 rfl rfl (sgN (by decide)) rfl (by decide) rfl rfl ⟨(Nat.le_of_ble_eq_true rfl), (Nat.le_of_ble_eq_true rfl)⟩ ⟨rfl, rfl⟩ ⟨(Nat.zero_le _), (Nat.zero_le _)⟩ (Nat.le_of_ble_eq_true rfl) ?_
          refine g_goto X (tgt := 219) dX10_told_211 (by decide) ?_
          obtain ⟨rfl, rfl⟩ := lf2 hf
          exact hret 219 _ dX10_told_219 rfl
      · have hf := it c184 hf
        refine g_aload_n X 0 dX10_told_187 rfl rfl ?_
        refine g_getr X (x := ad 69) 63 9 10 dX10_told_188 (sgN (by decide)) rfl (by decide) rfl iw_X10 (by decide) rfl q_fl_X10_29 rfl ?_
        refine g_iconst X (v := 5) dX10_told_191 (by decide) ?_
        refine g_iload_n X 1 dX10_told_192 rfl rfl ?_
        refine g_imul X dX10_told_193 ?_
        refine g_iconst X (v := 4) dX10_told_194 (by decide) ?_
        refine g_iadd X dX10_told_195 ?_
        obtain ⟨h196, hf⟩ := grd hf
        refine g_iald X 69 (n := 30) dX10_told_196 (sgN (by decide)) rfl rfl h196 ?_
        refine g_goto X (tgt := 219) dX10_told_197 (by decide) ?_
        obtain ⟨rfl, rfl⟩ := lf2 hf
        exact hret 219 _ dX10_told_219 rfl
    · have hf := ie c140 hf
      refine g_iload_n X 2 dX10_told_143 rfl rfl ?_
      refine g_if_ne X (tgt := 154) dX10_told_144 (by decide) (fun c144 => ?_) (fun c144 => ?_)
      · have hf := ie c144 hf
        refine g_iload_n X 2 dX10_told_154 rfl rfl ?_
        refine g_iconst X (v := 5) dX10_told_155 (by decide) ?_
        refine g_icmp_ge X (tgt := 174) dX10_told_156 (by decide) (fun c156 => ?_) (fun c156 => ?_)
        · have hf := it c156 hf
          refine g_aload_n X 0 dX10_told_174 rfl rfl ?_
          refine g_getr X (x := ad 68) 63 9 9 dX10_told_175 (sgN (by decide)) rfl (by decide) rfl iw_X10 (by decide) rfl q_fl_X10_26 rfl ?_
          refine g_iload_n X 1 dX10_told_178 rfl rfl ?_
          obtain ⟨h179, hf⟩ := grd hf
          refine g_iald X 68 (n := 6) dX10_told_179 (sgN (by decide)) rfl rfl h179 ?_
          obtain ⟨rfl, rfl⟩ := lf2 hf
          exact hret 180 _ dX10_told_180 rfl
        · have hf := ie c156 hf
          refine g_aload_n X 0 dX10_told_159 rfl rfl ?_
          refine g_getr X (x := ad 69) 63 9 10 dX10_told_160 (sgN (by decide)) rfl (by decide) rfl iw_X10 (by decide) rfl q_fl_X10_29 rfl ?_
          refine g_iconst X (v := 5) dX10_told_163 (by decide) ?_
          refine g_iload_n X 1 dX10_told_164 rfl rfl ?_
          refine g_imul X dX10_told_165 ?_
          refine g_iload_n X 2 dX10_told_166 rfl rfl ?_
          refine g_iadd X dX10_told_167 ?_
          refine g_iconst X (v := 1) dX10_told_168 (by decide) ?_
          refine g_isub X dX10_told_169 ?_
          obtain ⟨h170, hf⟩ := grd hf
          refine g_iald X 69 (n := 30) dX10_told_170 (sgN (by decide)) rfl rfl h170 ?_
          refine g_goto X (tgt := 180) dX10_told_171 (by decide) ?_
          obtain ⟨rfl, rfl⟩ := lf2 hf
          exact hret 180 _ dX10_told_180 rfl
      · have hf := it c144 hf
        refine g_aload_n X 0 dX10_told_147 rfl rfl ?_
        refine g_getI X 63 9 7 dX10_told_148 (sgN (by decide)) rfl (by decide) rfl iw_X10 (by decide) rfl q_fl_X10_100 ?_
        refine g_goto X (tgt := 180) dX10_told_151 (by decide) ?_
        obtain ⟨rfl, rfl⟩ := lf2 hf
        exact hret 180 _ dX10_told_180 rfl
  · have hf := ie c80 hf
    refine g_iload_n X 2 dX10_told_83 rfl rfl ?_
    refine g_bipush X (v := 20) dX10_told_84 (by decide) ?_
    refine g_icmp_ge X (tgt := 101) dX10_told_86 (by decide) (fun c86 => ?_) (fun c86 => ?_)
    · have hf := it c86 hf
      refine g_iload_n X 2 dX10_told_101 rfl rfl ?_
      refine g_bipush X (v := 30) dX10_told_102 (by decide) ?_
      refine g_icmp_ge X (tgt := 119) dX10_told_104 (by decide) (fun c104 => ?_) (fun c104 => ?_)
      · have hf := it c104 hf
        refine g_aload_n X 0 dX10_told_119 rfl rfl ?_
        refine g_iload_n X 1 dX10_told_120 rfl rfl ?_
        refine g_iload_n X 2 dX10_told_121 rfl rfl ?_
        refine g_bipush X (v := 30) dX10_told_122 (by decide) ?_
        refine g_isub X dX10_told_124 ?_
        obtain ⟨r125, m125, h125, hf⟩ := bi_i hf
        refine g_eVI X 63 9 [.int v1, .int (v2 - (30 : Int32))] kV_X10_137 (c_X10_takes1 h125) dX10_told_125 rfl rfl (sgN (by decide)) rfl (by decide) rfl rfl ⟨(Nat.le_of_ble_eq_true rfl), (Nat.le_of_ble_eq_true rfl)⟩ ⟨rfl, rfl⟩ ⟨(Nat.zero_le _), (Nat.zero_le _)⟩ (Nat.le_of_ble_eq_true rfl) ?_
        refine g_if_eq X (tgt := 135) dX10_told_128 (by decide) (fun c128 => ?_) (fun c128 => ?_)
        · have hf := it c128 hf
          refine g_iconst X (v := 0) dX10_told_135 (by decide) ?_
          obtain ⟨rfl, rfl⟩ := lf2 hf
          exact hret 136 _ dX10_told_136 rfl
        · have hf := ie c128 hf
          refine g_iconst X (v := 1) dX10_told_131 (by decide) ?_
          refine g_goto X (tgt := 136) dX10_told_132 (by decide) ?_
          obtain ⟨rfl, rfl⟩ := lf2 hf
          exact hret 136 _ dX10_told_136 rfl
      · have hf := ie c104 hf
        refine g_aload_n X 0 dX10_told_107 rfl rfl ?_
        refine g_iload_n X 1 dX10_told_108 rfl rfl ?_
        refine g_iload_n X 2 dX10_told_109 rfl rfl ?_
        refine g_bipush X (v := 20) dX10_told_110 (by decide) ?_
        refine g_isub X dX10_told_112 ?_
        obtain ⟨r113, m113, h113, hf⟩ := bi_i hf
        refine g_eVI X 63 9 [.int v1, .int (v2 - (20 : Int32))] kV_X10_134 (c_X10_timeOf h113) dX10_told_113 rfl rfl (sgN (by decide)) rfl (by decide) rfl rfl ⟨(Nat.le_of_ble_eq_true rfl), (Nat.le_of_ble_eq_true rfl)⟩ ⟨rfl, rfl⟩ ⟨(Nat.zero_le _), (Nat.zero_le _)⟩ (Nat.le_of_ble_eq_true rfl) ?_
        refine g_goto X (tgt := 136) dX10_told_116 (by decide) ?_
        obtain ⟨rfl, rfl⟩ := lf2 hf
        exact hret 136 _ dX10_told_136 rfl
    · have hf := ie c86 hf
      refine g_aload_n X 0 dX10_told_89 rfl rfl ?_
      refine g_iload_n X 1 dX10_told_90 rfl rfl ?_
      refine g_iload_n X 2 dX10_told_91 rfl rfl ?_
      refine g_bipush X (v := 10) dX10_told_92 (by decide) ?_
      refine g_isub X dX10_told_94 ?_
      obtain ⟨r95, m95, h95, hf⟩ := bi_i hf
      refine g_eVI X 63 9 [.int v1, .int (v2 - (10 : Int32))] kV_X10_131 (c_X10_worthOf h95) dX10_told_95 rfl rfl (sgN (by decide)) rfl (by decide) rfl rfl ⟨(Nat.le_of_ble_eq_true rfl), (Nat.le_of_ble_eq_true rfl)⟩ ⟨rfl, rfl⟩ ⟨(Nat.zero_le _), (Nat.zero_le _)⟩ (Nat.le_of_ble_eq_true rfl) ?_
      refine g_goto X (tgt := 136) dX10_told_98 (by decide) ?_
      obtain ⟨rfl, rfl⟩ := lf2 hf
      exact hret 136 _ dX10_told_136 rfl
set_option maxRecDepth 100000 in
set_option maxHeartbeats 4000000 in
theorem w_X10_told_64 {Γ : Ga} {b : Nat} {ad : Nat → Nat} {nt : Nat} {z : Nat → Nat} {r9 : Int32} {m9 : Mem} (X : Cx Γ b cX10_told 4 RX10 (some .int) rmX10_told) (hret : ∀ (pc : Nat) (lv : List (Nat × Value)), decode cX10_told pc = .ok (.ireturn, 1) → narrow .int (.int r9) = .int r9 → Go Γ b (sg ad nt z) 0 0 pc lv [.int r9] m9) (v1 : Int32) (v2 : Int32) (v3 : Int32) (m0 : Mem) (hf : X10_told_64 v1 v2 v3 m0 = some (r9, m9)) : Go Γ b (sg ad nt z) 0 0 64 [(0, .ref (ad 63)), (1, .int v1), (2, .int v2), (3, .int v3)] [] m0 := by
  refine g_iload_n X 2 dX10_told_64 rfl rfl ?_
  refine g_if_le X (tgt := 79) dX10_told_65 (by decide) (fun c65 => ?_) (fun c65 => ?_)
  · have hf := it c65 hf
    exact w_X10_told_79 X hret v1 v2 v3 m0 hf
  · have hf := ie c65 hf
    refine g_aload_n X 0 dX10_told_68 rfl rfl ?_
    refine g_iload_n X 1 dX10_told_69 rfl rfl ?_
    obtain ⟨r70, m70, h70, hf⟩ := bi_i hf
    refine g_eVI X 63 9 [.int v1] kV_X10_84 (c_X10_isOne h70) dX10_told_70 rfl rfl (sgN (by decide)) rfl (by decide) rfl rfl ⟨(Nat.le_of_ble_eq_true rfl), (Nat.le_of_ble_eq_true rfl)⟩ ⟨rfl, rfl⟩ ⟨(Nat.zero_le _), (Nat.zero_le _)⟩ (Nat.le_of_ble_eq_true rfl) ?_
    refine g_if_ne X (tgt := 79) dX10_told_73 (by decide) (fun c73 => ?_) (fun c73 => ?_)
    · have hf := ie c73 hf
      exact w_X10_told_79 X hret v1 v2 v3 m70 hf
    · have hf := it c73 hf
      refine g_bipush X (v := -2) dX10_told_76 (by decide) ?_
      obtain ⟨rfl, rfl⟩ := lf2 hf
      exact hret 78 _ dX10_told_78 rfl
set_option maxRecDepth 100000 in
set_option maxHeartbeats 4000000 in
theorem w_X10_told_47 {Γ : Ga} {b : Nat} {ad : Nat → Nat} {nt : Nat} {z : Nat → Nat} {r9 : Int32} {m9 : Mem} (X : Cx Γ b cX10_told 4 RX10 (some .int) rmX10_told) (hret : ∀ (pc : Nat) (lv : List (Nat × Value)), decode cX10_told pc = .ok (.ireturn, 1) → narrow .int (.int r9) = .int r9 → Go Γ b (sg ad nt z) 0 0 pc lv [.int r9] m9) (v1 : Int32) (v2 : Int32) (s0 : Int32) (m0 : Mem) (hf : X10_told_47 v1 v2 s0 m0 = some (r9, m9)) : Go Γ b (sg ad nt z) 0 0 47 [(0, .ref (ad 63)), (1, .int v1), (2, .int v2)] [.int s0] m0 := by
  refine g_istore_n X (lv' := [(3, .int s0), (0, .ref (ad 63)), (1, .int v1), (2, .int v2)]) dX10_told_47 rfl (by decide) rfl ?_
  refine g_iload_n X 3 dX10_told_48 rfl rfl ?_
  refine g_i2l X dX10_told_49 ?_
  refine g_lconst X (v := 0) dX10_told_50 (by decide) ?_
  refine g_ldc2 X dX10_told_51 q_cl_X10_129 ?_
  obtain ⟨r54, m54, h54, hf⟩ := bi_i hf
  refine g_eSI X [.long v2.toInt64, .long (0 : Int64), .long (8 : Int64)] kS_X10_76 (c_X10_in h54) dX10_told_54 rfl rfl ⟨(Nat.le_of_ble_eq_true rfl), (Nat.le_of_ble_eq_true rfl)⟩ ⟨rfl, rfl⟩ ⟨(Nat.zero_le _), (Nat.zero_le _)⟩ (Nat.le_of_ble_eq_true rfl) ?_
  refine g_if_ne X (tgt := 64) dX10_told_57 (by decide) (fun c57 => ?_) (fun c57 => ?_)
  · have hf := ie c57 hf
    refine g_pick [1, 2, 3, 0] (lv' := [(0, .ref (ad 63)), (1, .int v1), (2, .int v2), (3, .int s0)]) rfl ?_
    exact w_X10_told_64 X hret v1 v2 s0 m54 hf
  · have hf := it c57 hf
    refine g_iload_n X 0 dX10_told_60 rfl rfl ?_
    refine g_if_eq X (tgt := 76) dX10_told_61 (by decide) (fun c61 => ?_) (fun c61 => ?_)
    · have hf := it c61 hf
      refine g_bipush X (v := -2) dX10_told_76 (by decide) ?_
      obtain ⟨rfl, rfl⟩ := lf2 hf
      exact hret 78 _ dX10_told_78 rfl
    · have hf := ie c61 hf
      refine g_pick [1, 2, 3, 0] (lv' := [(0, .ref (ad 63)), (1, .int v1), (2, .int v2), (3, .int s0)]) rfl ?_
      exact w_X10_told_64 X hret v1 v2 s0 m54 hf
set_option maxRecDepth 100000 in
set_option maxHeartbeats 4000000 in
theorem w_X10_told_42 {Γ : Ga} {b : Nat} {ad : Nat → Nat} {nt : Nat} {z : Nat → Nat} {r9 : Int32} {m9 : Mem} (X : Cx Γ b cX10_told 4 RX10 (some .int) rmX10_told) (hret : ∀ (pc : Nat) (lv : List (Nat × Value)), decode cX10_told pc = .ok (.ireturn, 1) → narrow .int (.int r9) = .int r9 → Go Γ b (sg ad nt z) 0 0 pc lv [.int r9] m9) (v1 : Int32) (v2 : Int32) (m0 : Mem) (hf : X10_told_42 v1 v2 m0 = some (r9, m9)) : Go Γ b (sg ad nt z) 0 0 42 [(0, .ref (ad 63)), (1, .int v1), (2, .int v2)] [] m0 := by
  refine g_iconst X (v := 1) dX10_told_42 (by decide) ?_
  refine g_goto X (tgt := 47) dX10_told_43 (by decide) ?_
  exact w_X10_told_47 X hret v1 v2 (1 : Int32) m0 hf
set_option maxRecDepth 100000 in
set_option maxHeartbeats 4000000 in
theorem c_X10_told {l : Launch} {G : GG} {b : Nat} {ad : Nat → Nat} {nt : Nat} {z : Nat → Nat} {p0 : Int32} {p1 : Int32} {m0 : Mem} {r9 : Int32} {m9 : Mem} (hf : X10_told p0 p1 m0 = some (r9, m9)) : MtI l yX10_told cX10_told 4 (some .int) rmX10_told G b (sg ad nt z) m0 [.ref (ad 63), .int p0, .int p1] (pEI r9 (sg ad nt z) m9) := by
  refine mtI_of (by decide) (Nat.le_of_ble_eq_true rfl) .int rfl (fun Γ hG X hnm hr => ?_)
  have hret : ∀ (pc : Nat) (lv : List (Nat × Value)), decode cX10_told pc = .ok (.ireturn, 1) → narrow .int (.int r9) = .int r9 → Go Γ b (sg ad nt z) 0 0 pc lv [.int r9] m9 := fun pc lv d hn => hr pc lv _ _ _ d ⟨rfl, rfl, rfl⟩ hn
  show Go Γ b (sg ad nt z) 0 0 0 [(0, .ref (ad 63)), (1, .int p0), (2, .int p1)] [] m0
  refine g_iload_n X 2 dX10_told_0 rfl rfl ?_
  refine g_i2l X dX10_told_1 ?_
  refine g_ldc2 X dX10_told_2 q_cl_X10_117 ?_
  refine g_ldc2 X dX10_told_5 q_cl_X10_119 ?_
  obtain ⟨r8, m8, h8, hf⟩ := bi_i hf
  refine g_eSI X [.long p1.toInt64, .long (10 : Int64), .long (17 : Int64)] kS_X10_76 (c_X10_in h8) dX10_told_8 rfl rfl ⟨(Nat.le_of_ble_eq_true rfl), (Nat.le_of_ble_eq_true rfl)⟩ ⟨rfl, rfl⟩ ⟨(Nat.zero_le _), (Nat.zero_le _)⟩ (Nat.le_of_ble_eq_true rfl) ?_
  refine g_if_ne X (tgt := 42) dX10_told_11 (by decide) (fun c11 => ?_) (fun c11 => ?_)
  · have hf := ie c11 hf
    exact w_X10_told_42 X hret p0 p1 m8 hf
  · have hf := it c11 hf
    refine g_iload_n X 2 dX10_told_14 rfl rfl ?_
    refine g_i2l X dX10_told_15 ?_
    refine g_ldc2 X dX10_told_16 q_cl_X10_121 ?_
    refine g_ldc2 X dX10_told_19 q_cl_X10_123 ?_
    obtain ⟨r22, m22, h22, hf⟩ := bi_i hf
    refine g_eSI X [.long p1.toInt64, .long (20 : Int64), .long (27 : Int64)] kS_X10_76 (c_X10_in h22) dX10_told_22 rfl rfl ⟨(Nat.le_of_ble_eq_true rfl), (Nat.le_of_ble_eq_true rfl)⟩ ⟨rfl, rfl⟩ ⟨(Nat.zero_le _), (Nat.zero_le _)⟩ (Nat.le_of_ble_eq_true rfl) ?_
    refine g_if_ne X (tgt := 42) dX10_told_25 (by decide) (fun c25 => ?_) (fun c25 => ?_)
    · have hf := ie c25 hf
      exact w_X10_told_42 X hret p0 p1 m22 hf
    · have hf := it c25 hf
      refine g_iload_n X 2 dX10_told_28 rfl rfl ?_
      refine g_i2l X dX10_told_29 ?_
      refine g_ldc2 X dX10_told_30 q_cl_X10_125 ?_
      refine g_ldc2 X dX10_told_33 q_cl_X10_127 ?_
      obtain ⟨r36, m36, h36, hf⟩ := bi_i hf
      refine g_eSI X [.long p1.toInt64, .long (30 : Int64), .long (37 : Int64)] kS_X10_76 (c_X10_in h36) dX10_told_36 rfl rfl ⟨(Nat.le_of_ble_eq_true rfl), (Nat.le_of_ble_eq_true rfl)⟩ ⟨rfl, rfl⟩ ⟨(Nat.zero_le _), (Nat.zero_le _)⟩ (Nat.le_of_ble_eq_true rfl) ?_
      refine g_if_eq X (tgt := 46) dX10_told_39 (by decide) (fun c39 => ?_) (fun c39 => ?_)
      · have hf := it c39 hf
        refine g_iconst X (v := 0) dX10_told_46 (by decide) ?_
        exact w_X10_told_47 X hret p0 p1 (0 : Int32) m36 hf
      · have hf := ie c39 hf
        exact w_X10_told_42 X hret p0 p1 m36 hf

def X10_lays (p0 : Int32) (p1 : Int32) (p2 : Int32) (m0 : Mem) : Option (Mem) :=
  if p0 = 0 then
    some (pI m0 63 7 p2)
  else
    if (5 : Int32) ≤ p0 then
      if p0 = (5 : Int32) then
        if inn p1 6 then
        some (pI m0 68 p1.toNatClampNeg p2)
        else none
      else
        some (pI m0 63 4 p2)
    else
      if inn ((((5 : Int32) * p1) + p0) - (1 : Int32)) 30 then
      some (pI m0 69 ((((5 : Int32) * p1) + p0) - (1 : Int32)).toNatClampNeg p2)
      else none
abbrev rmX10_lays : Room := { frames := 0, cells := 0, slots := 0, locals := 0 }

set_option maxRecDepth 100000 in
set_option maxHeartbeats 4000000 in
theorem c_X10_lays {l : Launch} {G : GG} {b : Nat} {ad : Nat → Nat} {nt : Nat} {z : Nat → Nat} {p0 : Int32} {p1 : Int32} {p2 : Int32} {m0 : Mem} {m9 : Mem} (hf : X10_lays p0 p1 p2 m0 = some m9) : MtV l yX10_lays cX10_lays 4 (none) rmX10_lays G b (sg ad nt z) m0 [.ref (ad 63), .int p0, .int p1, .int p2] (pEV (sg ad nt z) m9) := by
  refine mtV_of (by decide) (Nat.le_of_ble_eq_true rfl) rfl (fun Γ hG X hnm hr => ?_)
  have hret : ∀ (pc : Nat) (lv : List (Nat × Value)), decode cX10_lays pc = .ok (.return_, 1) → Go Γ b (sg ad nt z) 0 0 pc lv [] m9 := fun pc lv d => hr pc lv _ _ d ⟨rfl, rfl⟩
  show Go Γ b (sg ad nt z) 0 0 0 [(0, .ref (ad 63)), (1, .int p0), (2, .int p1), (3, .int p2)] [] m0
  refine g_iload_n X 1 dX10_lays_0 rfl rfl ?_
  refine g_if_ne X (tgt := 12) dX10_lays_1 (by decide) (fun c1 => ?_) (fun c1 => ?_)
  · have hf := ie c1 hf
    refine g_iload_n X 1 dX10_lays_12 rfl rfl ?_
    refine g_iconst X (v := 5) dX10_lays_13 (by decide) ?_
    refine g_icmp_ge X (tgt := 33) dX10_lays_14 (by decide) (fun c14 => ?_) (fun c14 => ?_)
    · have hf := it c14 hf
      refine g_iload_n X 1 dX10_lays_33 rfl rfl ?_
      refine g_iconst X (v := 5) dX10_lays_34 (by decide) ?_
      refine g_icmp_ne X (tgt := 48) dX10_lays_35 (by decide) (fun c35 => ?_) (fun c35 => ?_)
      · have hf := ie c35 hf
        refine g_aload_n X 0 dX10_lays_48 rfl rfl ?_
        refine g_iload_n X 3 dX10_lays_49 rfl rfl ?_
        refine g_putI X (tyf := tyX10) 63 9 4 dX10_lays_50 (sgN (by decide)) rfl (by decide) rfl iw_X10 (by decide) rfl q_fl_X10_103 tyX10_ok nmX10 rfl rfl rfl ?_
        obtain rfl := lf1 hf
        exact hret 53 _ dX10_lays_53
      · have hf := it c35 hf
        refine g_aload_n X 0 dX10_lays_38 rfl rfl ?_
        refine g_getr X (x := ad 68) 63 9 9 dX10_lays_39 (sgN (by decide)) rfl (by decide) rfl iw_X10 (by decide) rfl q_fl_X10_26 rfl ?_
        refine g_iload_n X 2 dX10_lays_42 rfl rfl ?_
        refine g_iload_n X 3 dX10_lays_43 rfl rfl ?_
        obtain ⟨h44, hf⟩ := grd hf
        refine g_iast X 68 (n := 6) dX10_lays_44 (sgN (by decide)) rfl rfl h44 ?_
        refine g_goto X (tgt := 53) dX10_lays_45 (by decide) ?_
        obtain rfl := lf1 hf
        exact hret 53 _ dX10_lays_53
    · have hf := ie c14 hf
      refine g_aload_n X 0 dX10_lays_17 rfl rfl ?_
      refine g_getr X (x := ad 69) 63 9 10 dX10_lays_18 (sgN (by decide)) rfl (by decide) rfl iw_X10 (by decide) rfl q_fl_X10_29 rfl ?_
      refine g_iconst X (v := 5) dX10_lays_21 (by decide) ?_
      refine g_iload_n X 2 dX10_lays_22 rfl rfl ?_
      refine g_imul X dX10_lays_23 ?_
      refine g_iload_n X 1 dX10_lays_24 rfl rfl ?_
      refine g_iadd X dX10_lays_25 ?_
      refine g_iconst X (v := 1) dX10_lays_26 (by decide) ?_
      refine g_isub X dX10_lays_27 ?_
      refine g_iload_n X 3 dX10_lays_28 rfl rfl ?_
      obtain ⟨h29, hf⟩ := grd hf
      refine g_iast X 69 (n := 30) dX10_lays_29 (sgN (by decide)) rfl rfl h29 ?_
      refine g_goto X (tgt := 53) dX10_lays_30 (by decide) ?_
      obtain rfl := lf1 hf
      exact hret 53 _ dX10_lays_53
  · have hf := it c1 hf
    refine g_aload_n X 0 dX10_lays_4 rfl rfl ?_
    refine g_iload_n X 3 dX10_lays_5 rfl rfl ?_
    refine g_putI X (tyf := tyX10) 63 9 7 dX10_lays_6 (sgN (by decide)) rfl (by decide) rfl iw_X10 (by decide) rfl q_fl_X10_100 tyX10_ok nmX10 rfl rfl rfl ?_
    refine g_goto X (tgt := 53) dX10_lays_9 (by decide) ?_
    obtain rfl := lf1 hf
    exact hret 53 _ dX10_lays_53

theorem kS_X10_88 : wcS RX10 88 yX10_mostOf cX10_mostOf 1 (some .int) 1 := ⟨q_ml_X10_88, q_st_yX10_mostOf, q_in_X10, q_co_yX10_mostOf, by decide +kernel⟩

theorem kV_X10_92 : wcV RX10 92 RX10 yX10_told cX10_told 4 (some .int) 2 := ⟨q_ml_X10_92, q_im_yX10_told, q_se_yX10_told, q_in_X10, q_co_yX10_told, by decide +kernel⟩

theorem kV_X10_96 : wcV RX10 96 RX10 yX10_lays cX10_lays 4 (none) 3 := ⟨q_ml_X10_96, q_im_yX10_lays, q_se_yX10_lays, q_in_X10, q_co_yX10_lays, by decide +kernel⟩

def X10_set_24 (v1 : Int32) (v2 : Int32) (v3 : Int32) (m0 : Mem) : Option (Int32 × Mem) :=
  bi (X10_mostOf v1 m0) fun r28 m28 =>
  bi (X10_in v3.toInt64 (0 : Int64) r28.toInt64 m28) fun r32 m32 =>
  if r32 = 0 then
    some ((-2 : Int32), m32)
  else
    bi (X10_told v2 v1 m32) fun r44 m44 =>
    bv (X10_lays v1 v2 v3 m44) fun m53 =>
    some (r44, m53)
def X10_set (p0 : Int32) (p1 : Int32) (p2 : Int32) (m0 : Mem) : Option (Int32 × Mem) :=
  bi (X10_in p0.toInt64 (0 : Int64) (4 : Int64) m0) fun r6 m6 =>
  if r6 = 0 then
    some ((-2 : Int32), m6)
  else
    if p0 ≤ 0 then
      X10_set_24 p0 p1 p2 m6
    else
      bi (X10_isOne p1 m6) fun r18 m18 =>
      if r18 = 0 then
        some ((-2 : Int32), m18)
      else
        X10_set_24 p0 p1 p2 m18
abbrev rmX10_set : Room := { frames := 45, cells := 0, slots := 0, locals := 1002 }
set_option maxRecDepth 100000 in
set_option maxHeartbeats 4000000 in
theorem w_X10_set_24 {Γ : Ga} {b : Nat} {ad : Nat → Nat} {nt : Nat} {z : Nat → Nat} {r9 : Int32} {m9 : Mem} (X : Cx Γ b cX10_set 5 RX10 (some .int) rmX10_set) (hret : ∀ (pc : Nat) (lv : List (Nat × Value)), decode cX10_set pc = .ok (.ireturn, 1) → narrow .int (.int r9) = .int r9 → Go Γ b (sg ad nt z) 0 0 pc lv [.int r9] m9) (v1 : Int32) (v2 : Int32) (v3 : Int32) (m0 : Mem) (hf : X10_set_24 v1 v2 v3 m0 = some (r9, m9)) : Go Γ b (sg ad nt z) 0 0 24 [(0, .ref (ad 63)), (1, .int v1), (2, .int v2), (3, .int v3)] [] m0 := by
  refine g_iload_n X 3 dX10_set_24 rfl rfl ?_
  refine g_i2l X dX10_set_25 ?_
  refine g_lconst X (v := 0) dX10_set_26 (by decide) ?_
  refine g_iload_n X 1 dX10_set_27 rfl rfl ?_
  obtain ⟨r28, m28, h28, hf⟩ := bi_i hf
  refine g_eSI X [.int v1] kS_X10_88 (c_X10_mostOf h28) dX10_set_28 rfl rfl ⟨(Nat.le_of_ble_eq_true rfl), (Nat.le_of_ble_eq_true rfl)⟩ ⟨rfl, rfl⟩ ⟨(Nat.zero_le _), (Nat.zero_le _)⟩ (Nat.le_of_ble_eq_true rfl) ?_
  refine g_i2l X dX10_set_31 ?_
  obtain ⟨r32, m32, h32, hf⟩ := bi_i hf
  refine g_eSI X [.long v3.toInt64, .long (0 : Int64), .long r28.toInt64] kS_X10_76 (c_X10_in h32) dX10_set_32 rfl rfl ⟨(Nat.le_of_ble_eq_true rfl), (Nat.le_of_ble_eq_true rfl)⟩ ⟨rfl, rfl⟩ ⟨(Nat.zero_le _), (Nat.zero_le _)⟩ (Nat.le_of_ble_eq_true rfl) ?_
  refine g_if_ne X (tgt := 41) dX10_set_35 (by decide) (fun c35 => ?_) (fun c35 => ?_)
  · have hf := ie c35 hf
    refine g_aload_n X 0 dX10_set_41 rfl rfl ?_
    refine g_iload_n X 2 dX10_set_42 rfl rfl ?_
    refine g_iload_n X 1 dX10_set_43 rfl rfl ?_
    obtain ⟨r44, m44, h44, hf⟩ := bi_i hf
    refine g_eVI X 63 9 [.int v2, .int v1] kV_X10_92 (c_X10_told h44) dX10_set_44 rfl rfl (sgN (by decide)) rfl (by decide) rfl rfl ⟨(Nat.le_of_ble_eq_true rfl), (Nat.le_of_ble_eq_true rfl)⟩ ⟨rfl, rfl⟩ ⟨(Nat.zero_le _), (Nat.zero_le _)⟩ (Nat.le_of_ble_eq_true rfl) ?_
    refine g_istore X (lv' := [(4, .int r44), (0, .ref (ad 63)), (1, .int v1), (2, .int v2), (3, .int v3)]) dX10_set_47 (by decide) rfl ?_
    refine g_aload_n X 1 dX10_set_49 rfl rfl ?_
    refine g_iload_n X 2 dX10_set_50 rfl rfl ?_
    refine g_iload_n X 3 dX10_set_51 rfl rfl ?_
    refine g_iload_n X 4 dX10_set_52 rfl rfl ?_
    obtain ⟨m53, h53, hf⟩ := bv_i hf
    refine g_eVV X 63 9 [.int v1, .int v2, .int v3] kV_X10_96 (c_X10_lays h53) dX10_set_53 rfl rfl (sgN (by decide)) rfl (by decide) rfl rfl ⟨(Nat.le_of_ble_eq_true rfl), (Nat.le_of_ble_eq_true rfl)⟩ ⟨rfl, rfl⟩ ⟨(Nat.zero_le _), (Nat.zero_le _)⟩ (Nat.le_of_ble_eq_true rfl) ?_
    refine g_iload X 0 dX10_set_56 rfl ?_
    obtain ⟨rfl, rfl⟩ := lf2 hf
    exact hret 58 _ dX10_set_58 rfl
  · have hf := it c35 hf
    refine g_bipush X (v := -2) dX10_set_38 (by decide) ?_
    obtain ⟨rfl, rfl⟩ := lf2 hf
    exact hret 40 _ dX10_set_40 rfl
set_option maxRecDepth 100000 in
set_option maxHeartbeats 4000000 in
theorem c_X10_set {l : Launch} {G : GG} {b : Nat} {ad : Nat → Nat} {nt : Nat} {z : Nat → Nat} {p0 : Int32} {p1 : Int32} {p2 : Int32} {m0 : Mem} {r9 : Int32} {m9 : Mem} (hf : X10_set p0 p1 p2 m0 = some (r9, m9)) : MtI l yX10_set cX10_set 5 (some .int) rmX10_set G b (sg ad nt z) m0 [.ref (ad 63), .int p0, .int p1, .int p2] (pEI r9 (sg ad nt z) m9) := by
  refine mtI_of (by decide) (Nat.le_of_ble_eq_true rfl) .int rfl (fun Γ hG X hnm hr => ?_)
  have hret : ∀ (pc : Nat) (lv : List (Nat × Value)), decode cX10_set pc = .ok (.ireturn, 1) → narrow .int (.int r9) = .int r9 → Go Γ b (sg ad nt z) 0 0 pc lv [.int r9] m9 := fun pc lv d hn => hr pc lv _ _ _ d ⟨rfl, rfl, rfl⟩ hn
  show Go Γ b (sg ad nt z) 0 0 0 [(0, .ref (ad 63)), (1, .int p0), (2, .int p1), (3, .int p2)] [] m0
  refine g_iload_n X 1 dX10_set_0 rfl rfl ?_
  refine g_i2l X dX10_set_1 ?_
  refine g_lconst X (v := 0) dX10_set_2 (by decide) ?_
  refine g_ldc2 X dX10_set_3 q_cl_X10_82 ?_
  obtain ⟨r6, m6, h6, hf⟩ := bi_i hf
  refine g_eSI X [.long p0.toInt64, .long (0 : Int64), .long (4 : Int64)] kS_X10_76 (c_X10_in h6) dX10_set_6 rfl rfl ⟨(Nat.le_of_ble_eq_true rfl), (Nat.le_of_ble_eq_true rfl)⟩ ⟨rfl, rfl⟩ ⟨(Nat.zero_le _), (Nat.zero_le _)⟩ (Nat.le_of_ble_eq_true rfl) ?_
  refine g_if_eq X (tgt := 38) dX10_set_9 (by decide) (fun c9 => ?_) (fun c9 => ?_)
  · have hf := it c9 hf
    refine g_bipush X (v := -2) dX10_set_38 (by decide) ?_
    obtain ⟨rfl, rfl⟩ := lf2 hf
    exact hret 40 _ dX10_set_40 rfl
  · have hf := ie c9 hf
    refine g_iload_n X 1 dX10_set_12 rfl rfl ?_
    refine g_if_le X (tgt := 24) dX10_set_13 (by decide) (fun c13 => ?_) (fun c13 => ?_)
    · have hf := it c13 hf
      exact w_X10_set_24 X hret p0 p1 p2 m6 hf
    · have hf := ie c13 hf
      refine g_aload_n X 0 dX10_set_16 rfl rfl ?_
      refine g_iload_n X 2 dX10_set_17 rfl rfl ?_
      obtain ⟨r18, m18, h18, hf⟩ := bi_i hf
      refine g_eVI X 63 9 [.int p1] kV_X10_84 (c_X10_isOne h18) dX10_set_18 rfl rfl (sgN (by decide)) rfl (by decide) rfl rfl ⟨(Nat.le_of_ble_eq_true rfl), (Nat.le_of_ble_eq_true rfl)⟩ ⟨rfl, rfl⟩ ⟨(Nat.zero_le _), (Nat.zero_le _)⟩ (Nat.le_of_ble_eq_true rfl) ?_
      refine g_if_eq X (tgt := 38) dX10_set_21 (by decide) (fun c21 => ?_) (fun c21 => ?_)
      · have hf := it c21 hf
        refine g_bipush X (v := -2) dX10_set_38 (by decide) ?_
        obtain ⟨rfl, rfl⟩ := lf2 hf
        exact hret 40 _ dX10_set_40 rfl
      · have hf := ie c21 hf
        exact w_X10_set_24 X hret p0 p1 p2 m18 hf

def X10_spreads_127 (k58 : Int32 → Mem → Option (Mem)) (k66 : Int32 → Int32 → Mem → Option (Mem)) (v1 : Int32) (v2 : Int32) (s0 : Int32) (s1 : Int32) (m0 : Mem) : Option (Mem) :=
  if inn s1 64 then
  k66 v1 (v2 + (1 : Int32)) (pI m0 70 s1.toNatClampNeg s0)
  else none
def X10_spreads_66 (k58 : Int32 → Mem → Option (Mem)) : Nat → Int32 → Int32 → Mem → Option (Mem)
  | 0, _, _, _ => none
  | n + 1, v1, v2, m0 =>
    if (64 : Int32) ≤ v2 then
      k58 (v1 + (1 : Int32)) m0
    else
      if inn (((8 : Int32) * (v2 / (8 : Int32))) + v1) 64 then
      if inn (((8 : Int32) * v1) + (v2 - v2 / (8 : Int32) * (8 : Int32))) 64 then
      if inn v2 64 then
      if (m0.1 70 v2.toNatClampNeg) ≤ ((m0.1 70 (((8 : Int32) * (v2 / (8 : Int32))) + v1).toNatClampNeg) + (m0.1 70 (((8 : Int32) * v1) + (v2 - v2 / (8 : Int32) * (8 : Int32))).toNatClampNeg)) then
        if inn v2 64 then
        X10_spreads_127 k58 (X10_spreads_66 k58 n) v1 v2 (m0.1 70 v2.toNatClampNeg) v2 m0
        else none
      else
        X10_spreads_127 k58 (X10_spreads_66 k58 n) v1 v2 ((m0.1 70 (((8 : Int32) * (v2 / (8 : Int32))) + v1).toNatClampNeg) + (m0.1 70 (((8 : Int32) * v1) + (v2 - v2 / (8 : Int32) * (8 : Int32))).toNatClampNeg)) v2 m0
      else none
      else none
      else none
def X10_spreads_58 : Nat → Int32 → Mem → Option (Mem)
  | 0, _, _ => none
  | n + 1, v1, m0 =>
    if (8 : Int32) ≤ v1 then
      some m0
    else
      X10_spreads_66 (X10_spreads_58 n) 10000 v1 (0 : Int32) m0
def X10_spreads_49 (k2 : Int32 → Mem → Option (Mem)) (v1 : Int32) (s0 : Int32) (s1 : Int32) (m0 : Mem) : Option (Mem) :=
  if inn s1 64 then
  k2 (v1 + (1 : Int32)) (pI m0 70 s1.toNatClampNeg s0)
  else none
def X10_spreads_2 : Nat → Int32 → Mem → Option (Mem)
  | 0, _, _ => none
  | n + 1, v1, m0 =>
    if (64 : Int32) ≤ v1 then
      X10_spreads_58 10000 (0 : Int32) m0
    else
      if (v1 / (8 : Int32)) = (v1 - v1 / (8 : Int32) * (8 : Int32)) then
        X10_spreads_49 (X10_spreads_2 n) v1 (0 : Int32) v1 m0
      else
        if inn v1 64 then
        if (m0.1 67 v1.toNatClampNeg) = 0 then
          X10_spreads_49 (X10_spreads_2 n) v1 (999 : Int32) v1 m0
        else
          if inn v1 64 then
          X10_spreads_49 (X10_spreads_2 n) v1 (m0.1 67 v1.toNatClampNeg) v1 m0
          else none
        else none
def X10_spreads (m0 : Mem) : Option (Mem) :=
  X10_spreads_2 10000 (0 : Int32) m0
abbrev rmX10_spreads : Room := { frames := 0, cells := 0, slots := 0, locals := 0 }
set_option maxRecDepth 100000 in
set_option maxHeartbeats 4000000 in
theorem w_X10_spreads_127 {Γ : Ga} {b : Nat} {ad : Nat → Nat} {nt : Nat} {z : Nat → Nat} {k58 : Int32 → Mem → Option (Mem)} {k66 : Int32 → Int32 → Mem → Option (Mem)} {m9 : Mem} (X : Cx Γ b cX10_spreads 4 RX10 (none) rmX10_spreads) (hret : ∀ (pc : Nat) (lv : List (Nat × Value)), decode cX10_spreads pc = .ok (.return_, 1) → Go Γ b (sg ad nt z) 0 0 pc lv [] m9) (hk58 : ∀ (v1 : Int32) (m0 : Mem), k58 v1 m0 = some m9 → Go Γ b (sg ad nt z) 0 0 58 [(0, .ref (ad 63)), (1, .int v1)] [] m0) (hk66 : ∀ (v1 : Int32) (v2 : Int32) (m0 : Mem), k66 v1 v2 m0 = some m9 → Go Γ b (sg ad nt z) 0 0 66 [(0, .ref (ad 63)), (1, .int v1), (2, .int v2)] [] m0) (v1 : Int32) (v2 : Int32) (s0 : Int32) (s1 : Int32) (m0 : Mem) (hf : X10_spreads_127 k58 k66 v1 v2 s0 s1 m0 = some m9) : Go Γ b (sg ad nt z) 0 0 127 [(0, .ref (ad 63)), (1, .int v1), (2, .int v2)] [.int s0, .int s1, .ref (ad 70)] m0 := by
  obtain ⟨h127, hf⟩ := grd hf
  refine g_iast X 70 (n := 64) dX10_spreads_127 (sgN (by decide)) rfl rfl h127 ?_
  refine g_iinc X 2 (v := v2 + (1 : Int32)) (lv' := [(2, .int (v2 + (1 : Int32))), (0, .ref (ad 63)), (1, .int v1)]) dX10_spreads_128 rfl rfl (by decide) rfl ?_
  refine g_goto X (tgt := 66) dX10_spreads_131 (by decide) ?_
  refine g_pick [1, 2, 0] (lv' := [(0, .ref (ad 63)), (1, .int v1), (2, .int (v2 + (1 : Int32)))]) rfl ?_
  exact hk66 v1 (v2 + (1 : Int32)) (pI m0 70 s1.toNatClampNeg s0) hf
set_option maxRecDepth 100000 in
set_option maxHeartbeats 4000000 in
theorem w_X10_spreads_66 {Γ : Ga} {b : Nat} {ad : Nat → Nat} {nt : Nat} {z : Nat → Nat} {k58 : Int32 → Mem → Option (Mem)} {m9 : Mem} (X : Cx Γ b cX10_spreads 4 RX10 (none) rmX10_spreads) (hret : ∀ (pc : Nat) (lv : List (Nat × Value)), decode cX10_spreads pc = .ok (.return_, 1) → Go Γ b (sg ad nt z) 0 0 pc lv [] m9) (hk58 : ∀ (v1 : Int32) (m0 : Mem), k58 v1 m0 = some m9 → Go Γ b (sg ad nt z) 0 0 58 [(0, .ref (ad 63)), (1, .int v1)] [] m0) : ∀ (n : Nat) (v1 : Int32) (v2 : Int32) (m0 : Mem), X10_spreads_66 k58 n v1 v2 m0 = some m9 → Go Γ b (sg ad nt z) 0 0 66 [(0, .ref (ad 63)), (1, .int v1), (2, .int v2)] [] m0 := by
  intro n
  induction n with
  | zero =>
    intro v1 v2 m0 hf
    cases hf
  | succ n ih =>
    intro v1 v2 m0 hf
    refine g_iload_n X 2 dX10_spreads_66 rfl rfl ?_
    refine g_bipush X (v := 64) dX10_spreads_67 (by decide) ?_
    refine g_icmp_ge X (tgt := 134) dX10_spreads_69 (by decide) (fun c69 => ?_) (fun c69 => ?_)
    · have hf := it c69 hf
      refine g_iinc X 1 (v := v1 + (1 : Int32)) (lv' := [(1, .int (v1 + (1 : Int32))), (0, .ref (ad 63)), (2, .int v2)]) dX10_spreads_134 rfl rfl (by decide) rfl ?_
      refine g_goto X (tgt := 58) dX10_spreads_137 (by decide) ?_
      refine g_pick [1, 0] (lv' := [(0, .ref (ad 63)), (1, .int (v1 + (1 : Int32)))]) rfl ?_
      exact hk58 (v1 + (1 : Int32)) m0 hf
    · have hf := ie c69 hf
      refine g_aload_n X 0 dX10_spreads_72 rfl rfl ?_
      refine g_getr X (x := ad 70) 63 9 12 dX10_spreads_73 (sgN (by decide)) rfl (by decide) rfl iw_X10 (by decide) rfl q_fl_X10_32 rfl ?_
      refine g_bipush X (v := 8) dX10_spreads_76 (by decide) ?_
      refine g_iload_n X 2 dX10_spreads_78 rfl rfl ?_
      refine g_bipush X (v := 8) dX10_spreads_79 (by decide) ?_
      refine g_idiv X dX10_spreads_81 (by decide) ?_
      refine g_imul X dX10_spreads_82 ?_
      refine g_iload_n X 1 dX10_spreads_83 rfl rfl ?_
      refine g_iadd X dX10_spreads_84 ?_
      obtain ⟨h85, hf⟩ := grd hf
      refine g_iald X 70 (n := 64) dX10_spreads_85 (sgN (by decide)) rfl rfl h85 ?_
      refine g_aload_n X 0 dX10_spreads_86 rfl rfl ?_
      refine g_getr X (x := ad 70) 63 9 12 dX10_spreads_87 (sgN (by decide)) rfl (by decide) rfl iw_X10 (by decide) rfl q_fl_X10_32 rfl ?_
      refine g_bipush X (v := 8) dX10_spreads_90 (by decide) ?_
      refine g_iload_n X 1 dX10_spreads_92 rfl rfl ?_
      refine g_imul X dX10_spreads_93 ?_
      refine g_iload_n X 2 dX10_spreads_94 rfl rfl ?_
      refine g_bipush X (v := 8) dX10_spreads_95 (by decide) ?_
      refine g_irem X dX10_spreads_97 (by decide) ?_
      refine g_iadd X dX10_spreads_98 ?_
      obtain ⟨h99, hf⟩ := grd hf
      refine g_iald X 70 (n := 64) dX10_spreads_99 (sgN (by decide)) rfl rfl h99 ?_
      refine g_iadd X dX10_spreads_100 ?_
      refine g_istore_n X (lv' := [(3, .int ((m0.1 70 (((8 : Int32) * (v2 / (8 : Int32))) + v1).toNatClampNeg) + (m0.1 70 (((8 : Int32) * v1) + (v2 - v2 / (8 : Int32) * (8 : Int32))).toNatClampNeg))), (0, .ref (ad 63)), (1, .int v1), (2, .int v2)]) dX10_spreads_101 rfl (by decide) rfl ?_
      refine g_aload_n X 1 dX10_spreads_102 rfl rfl ?_
      refine g_getr X (x := ad 70) 63 9 12 dX10_spreads_103 (sgN (by decide)) rfl (by decide) rfl iw_X10 (by decide) rfl q_fl_X10_32 rfl ?_
      refine g_iload_n X 3 dX10_spreads_106 rfl rfl ?_
      refine g_iload_n X 0 dX10_spreads_107 rfl rfl ?_
      refine g_aload_n X 1 dX10_spreads_108 rfl rfl ?_
      refine g_getr X (x := ad 70) 63 9 12 dX10_spreads_109 (sgN (by decide)) rfl (by decide) rfl iw_X10 (by decide) rfl q_fl_X10_32 rfl ?_
      refine g_iload_n X 3 dX10_spreads_112 rfl rfl ?_
      obtain ⟨h113, hf⟩ := grd hf
      refine g_iald X 70 (n := 64) dX10_spreads_113 (sgN (by decide)) rfl rfl h113 ?_
      refine g_icmp_ge X (tgt := 121) dX10_spreads_114 (by decide) (fun c114 => ?_) (fun c114 => ?_)
      · have hf := it c114 hf
        refine g_aload_n X 1 dX10_spreads_121 rfl rfl ?_
        refine g_getr X (x := ad 70) 63 9 12 dX10_spreads_122 (sgN (by decide)) rfl (by decide) rfl iw_X10 (by decide) rfl q_fl_X10_32 rfl ?_
        refine g_iload_n X 3 dX10_spreads_125 rfl rfl ?_
        obtain ⟨h126, hf⟩ := grd hf
        refine g_iald X 70 (n := 64) dX10_spreads_126 (sgN (by decide)) rfl rfl h126 ?_
        refine g_pick [1, 2, 3] (lv' := [(0, .ref (ad 63)), (1, .int v1), (2, .int v2)]) rfl ?_
        exact w_X10_spreads_127 X hret hk58 ih v1 v2 (m0.1 70 v2.toNatClampNeg) v2 m0 hf
      · have hf := ie c114 hf
        refine g_iload_n X 0 dX10_spreads_117 rfl rfl ?_
        refine g_goto X (tgt := 127) dX10_spreads_118 (by decide) ?_
        refine g_pick [1, 2, 3] (lv' := [(0, .ref (ad 63)), (1, .int v1), (2, .int v2)]) rfl ?_
        exact w_X10_spreads_127 X hret hk58 ih v1 v2 ((m0.1 70 (((8 : Int32) * (v2 / (8 : Int32))) + v1).toNatClampNeg) + (m0.1 70 (((8 : Int32) * v1) + (v2 - v2 / (8 : Int32) * (8 : Int32))).toNatClampNeg)) v2 m0 hf
set_option maxRecDepth 100000 in
set_option maxHeartbeats 4000000 in
theorem w_X10_spreads_58 {Γ : Ga} {b : Nat} {ad : Nat → Nat} {nt : Nat} {z : Nat → Nat} {m9 : Mem} (X : Cx Γ b cX10_spreads 4 RX10 (none) rmX10_spreads) (hret : ∀ (pc : Nat) (lv : List (Nat × Value)), decode cX10_spreads pc = .ok (.return_, 1) → Go Γ b (sg ad nt z) 0 0 pc lv [] m9) : ∀ (n : Nat) (v1 : Int32) (m0 : Mem), X10_spreads_58 n v1 m0 = some m9 → Go Γ b (sg ad nt z) 0 0 58 [(0, .ref (ad 63)), (1, .int v1)] [] m0 := by
  intro n
  induction n with
  | zero =>
    intro v1 m0 hf
    cases hf
  | succ n ih =>
    intro v1 m0 hf
    refine g_iload_n X 1 dX10_spreads_58 rfl rfl ?_
    refine g_bipush X (v := 8) dX10_spreads_59 (by decide) ?_
    refine g_icmp_ge X (tgt := 140) dX10_spreads_61 (by decide) (fun c61 => ?_) (fun c61 => ?_)
    · have hf := it c61 hf
      obtain rfl := lf1 hf
      exact hret 140 _ dX10_spreads_140
    · have hf := ie c61 hf
      refine g_iconst X (v := 0) dX10_spreads_64 (by decide) ?_
      refine g_istore_n X (lv' := [(2, .int (0 : Int32)), (0, .ref (ad 63)), (1, .int v1)]) dX10_spreads_65 rfl (by decide) rfl ?_
      refine g_pick [1, 2, 0] (lv' := [(0, .ref (ad 63)), (1, .int v1), (2, .int (0 : Int32))]) rfl ?_
      exact w_X10_spreads_66 X hret ih 10000 v1 (0 : Int32) m0 hf
set_option maxRecDepth 100000 in
set_option maxHeartbeats 4000000 in
theorem w_X10_spreads_49 {Γ : Ga} {b : Nat} {ad : Nat → Nat} {nt : Nat} {z : Nat → Nat} {k2 : Int32 → Mem → Option (Mem)} {m9 : Mem} (X : Cx Γ b cX10_spreads 4 RX10 (none) rmX10_spreads) (hret : ∀ (pc : Nat) (lv : List (Nat × Value)), decode cX10_spreads pc = .ok (.return_, 1) → Go Γ b (sg ad nt z) 0 0 pc lv [] m9) (hk2 : ∀ (v1 : Int32) (m0 : Mem), k2 v1 m0 = some m9 → Go Γ b (sg ad nt z) 0 0 2 [(0, .ref (ad 63)), (1, .int v1)] [] m0) (v1 : Int32) (s0 : Int32) (s1 : Int32) (m0 : Mem) (hf : X10_spreads_49 k2 v1 s0 s1 m0 = some m9) : Go Γ b (sg ad nt z) 0 0 49 [(0, .ref (ad 63)), (1, .int v1)] [.int s0, .int s1, .ref (ad 70)] m0 := by
  obtain ⟨h49, hf⟩ := grd hf
  refine g_iast X 70 (n := 64) dX10_spreads_49 (sgN (by decide)) rfl rfl h49 ?_
  refine g_iinc X 1 (v := v1 + (1 : Int32)) (lv' := [(1, .int (v1 + (1 : Int32))), (0, .ref (ad 63))]) dX10_spreads_50 rfl rfl (by decide) rfl ?_
  refine g_goto X (tgt := 2) dX10_spreads_53 (by decide) ?_
  refine g_pick [1, 0] (lv' := [(0, .ref (ad 63)), (1, .int (v1 + (1 : Int32)))]) rfl ?_
  exact hk2 (v1 + (1 : Int32)) (pI m0 70 s1.toNatClampNeg s0) hf
set_option maxRecDepth 100000 in
set_option maxHeartbeats 4000000 in
theorem w_X10_spreads_2 {Γ : Ga} {b : Nat} {ad : Nat → Nat} {nt : Nat} {z : Nat → Nat} {m9 : Mem} (X : Cx Γ b cX10_spreads 4 RX10 (none) rmX10_spreads) (hret : ∀ (pc : Nat) (lv : List (Nat × Value)), decode cX10_spreads pc = .ok (.return_, 1) → Go Γ b (sg ad nt z) 0 0 pc lv [] m9) : ∀ (n : Nat) (v1 : Int32) (m0 : Mem), X10_spreads_2 n v1 m0 = some m9 → Go Γ b (sg ad nt z) 0 0 2 [(0, .ref (ad 63)), (1, .int v1)] [] m0 := by
  intro n
  induction n with
  | zero =>
    intro v1 m0 hf
    cases hf
  | succ n ih =>
    intro v1 m0 hf
    refine g_iload_n X 1 dX10_spreads_2 rfl rfl ?_
    refine g_bipush X (v := 64) dX10_spreads_3 (by decide) ?_
    refine g_icmp_ge X (tgt := 56) dX10_spreads_5 (by decide) (fun c5 => ?_) (fun c5 => ?_)
    · have hf := it c5 hf
      refine g_iconst X (v := 0) dX10_spreads_56 (by decide) ?_
      refine g_istore_n X (lv' := [(1, .int (0 : Int32)), (0, .ref (ad 63))]) dX10_spreads_57 rfl (by decide) rfl ?_
      refine g_pick [1, 0] (lv' := [(0, .ref (ad 63)), (1, .int (0 : Int32))]) rfl ?_
      exact w_X10_spreads_58 X hret 10000 (0 : Int32) m0 hf
    · have hf := ie c5 hf
      refine g_aload_n X 0 dX10_spreads_8 rfl rfl ?_
      refine g_getr X (x := ad 70) 63 9 12 dX10_spreads_9 (sgN (by decide)) rfl (by decide) rfl iw_X10 (by decide) rfl q_fl_X10_32 rfl ?_
      refine g_iload_n X 1 dX10_spreads_12 rfl rfl ?_
      refine g_iload_n X 1 dX10_spreads_13 rfl rfl ?_
      refine g_bipush X (v := 8) dX10_spreads_14 (by decide) ?_
      refine g_idiv X dX10_spreads_16 (by decide) ?_
      refine g_iload_n X 1 dX10_spreads_17 rfl rfl ?_
      refine g_bipush X (v := 8) dX10_spreads_18 (by decide) ?_
      refine g_irem X dX10_spreads_20 (by decide) ?_
      refine g_icmp_ne X (tgt := 28) dX10_spreads_21 (by decide) (fun c21 => ?_) (fun c21 => ?_)
      · have hf := ie c21 hf
        refine g_aload_n X 0 dX10_spreads_28 rfl rfl ?_
        refine g_getr X (x := ad 67) 63 9 8 dX10_spreads_29 (sgN (by decide)) rfl (by decide) rfl iw_X10 (by decide) rfl q_fl_X10_23 rfl ?_
        refine g_iload_n X 1 dX10_spreads_32 rfl rfl ?_
        obtain ⟨h33, hf⟩ := grd hf
        refine g_iald X 67 (n := 64) dX10_spreads_33 (sgN (by decide)) rfl rfl h33 ?_
        refine g_if_ne X (tgt := 43) dX10_spreads_34 (by decide) (fun c34 => ?_) (fun c34 => ?_)
        · have hf := ie c34 hf
          refine g_aload_n X 0 dX10_spreads_43 rfl rfl ?_
          refine g_getr X (x := ad 67) 63 9 8 dX10_spreads_44 (sgN (by decide)) rfl (by decide) rfl iw_X10 (by decide) rfl q_fl_X10_23 rfl ?_
          refine g_iload_n X 1 dX10_spreads_47 rfl rfl ?_
          obtain ⟨h48, hf⟩ := grd hf
          refine g_iald X 67 (n := 64) dX10_spreads_48 (sgN (by decide)) rfl rfl h48 ?_
          exact w_X10_spreads_49 X hret ih v1 (m0.1 67 v1.toNatClampNeg) v1 m0 hf
        · have hf := it c34 hf
          refine g_sipush X (v := 999) dX10_spreads_37 (by decide) ?_
          refine g_goto X (tgt := 49) dX10_spreads_40 (by decide) ?_
          exact w_X10_spreads_49 X hret ih v1 (999 : Int32) v1 m0 hf
      · have hf := it c21 hf
        refine g_iconst X (v := 0) dX10_spreads_24 (by decide) ?_
        refine g_goto X (tgt := 49) dX10_spreads_25 (by decide) ?_
        exact w_X10_spreads_49 X hret ih v1 (0 : Int32) v1 m0 hf
set_option maxRecDepth 100000 in
set_option maxHeartbeats 4000000 in
theorem c_X10_spreads {l : Launch} {G : GG} {b : Nat} {ad : Nat → Nat} {nt : Nat} {z : Nat → Nat} {m0 : Mem} {m9 : Mem} (hf : X10_spreads m0 = some m9) : MtV l yX10_spreads cX10_spreads 4 (none) rmX10_spreads G b (sg ad nt z) m0 [.ref (ad 63)] (pEV (sg ad nt z) m9) := by
  refine mtV_of (by decide) (Nat.le_of_ble_eq_true rfl) rfl (fun Γ hG X hnm hr => ?_)
  have hret : ∀ (pc : Nat) (lv : List (Nat × Value)), decode cX10_spreads pc = .ok (.return_, 1) → Go Γ b (sg ad nt z) 0 0 pc lv [] m9 := fun pc lv d => hr pc lv _ _ d ⟨rfl, rfl⟩
  show Go Γ b (sg ad nt z) 0 0 0 [(0, .ref (ad 63))] [] m0
  refine g_iconst X (v := 0) dX10_spreads_0 (by decide) ?_
  refine g_istore_n X (lv' := [(1, .int (0 : Int32)), (0, .ref (ad 63))]) dX10_spreads_1 rfl (by decide) rfl ?_
  refine g_pick [1, 0] (lv' := [(0, .ref (ad 63)), (1, .int (0 : Int32))]) rfl ?_
  exact w_X10_spreads_2 X hret 10000 (0 : Int32) m0 hf

theorem kS_X10_106 : wcS RX10 106 yX10_isPlace cX10_isPlace 1 (some .boolean) 1 := ⟨q_ml_X10_106, q_st_yX10_isPlace, q_in_X10, q_co_yX10_isPlace, by decide +kernel⟩

theorem kV_X10_63 : wcV RX10 63 RX10 yX10_spreads cX10_spreads 4 (none) 0 := ⟨q_ml_X10_63, q_im_yX10_spreads, q_se_yX10_spreads, q_in_X10, q_co_yX10_spreads, by decide +kernel⟩

def X10_road (p0 : Int32) (p1 : Int32) (p2 : Int32) (m0 : Mem) : Option (Int32 × Mem) :=
  bi (X10_isPlace p0 m0) fun r1 m1 =>
  if r1 = 0 then
    some ((-2 : Int32), m1)
  else
    bi (X10_isPlace p1 m1) fun r8 m8 =>
    if r8 = 0 then
      some ((-2 : Int32), m8)
    else
      if p0 = p1 then
        some ((-2 : Int32), m8)
      else
        bi (X10_in p2.toInt64 (0 : Int64) (99 : Int64) m8) fun r25 m25 =>
        if r25 = 0 then
          some ((-2 : Int32), m25)
        else
          if inn (((8 : Int32) * p0) + p1) 64 then
          if inn (((8 : Int32) * p0) + p1) 64 then
          if inn (((8 : Int32) * p1) + p0) 64 then
          bv (X10_spreads (pI (pI m25 67 (((8 : Int32) * p0) + p1).toNatClampNeg p2) 67 (((8 : Int32) * p1) + p0).toNatClampNeg p2)) fun m72 =>
          some (m25.1 67 (((8 : Int32) * p0) + p1).toNatClampNeg, m72)
          else none
          else none
          else none
abbrev rmX10_road : Room := { frames := 2, cells := 0, slots := 0, locals := 45 }

set_option maxRecDepth 100000 in
set_option maxHeartbeats 4000000 in
theorem c_X10_road {l : Launch} {G : GG} {b : Nat} {ad : Nat → Nat} {nt : Nat} {z : Nat → Nat} {p0 : Int32} {p1 : Int32} {p2 : Int32} {m0 : Mem} {r9 : Int32} {m9 : Mem} (hf : X10_road p0 p1 p2 m0 = some (r9, m9)) : MtI l yX10_road cX10_road 5 (some .int) rmX10_road G b (sg ad nt z) m0 [.ref (ad 63), .int p0, .int p1, .int p2] (pEI r9 (sg ad nt z) m9) := by
  refine mtI_of (by decide) (Nat.le_of_ble_eq_true rfl) .int rfl (fun Γ hG X hnm hr => ?_)
  have hret : ∀ (pc : Nat) (lv : List (Nat × Value)), decode cX10_road pc = .ok (.ireturn, 1) → narrow .int (.int r9) = .int r9 → Go Γ b (sg ad nt z) 0 0 pc lv [.int r9] m9 := fun pc lv d hn => hr pc lv _ _ _ d ⟨rfl, rfl, rfl⟩ hn
  show Go Γ b (sg ad nt z) 0 0 0 [(0, .ref (ad 63)), (1, .int p0), (2, .int p1), (3, .int p2)] [] m0
  refine g_iload_n X 1 dX10_road_0 rfl rfl ?_
  obtain ⟨r1, m1, h1, hf⟩ := bi_i hf
  refine g_eSI X [.int p0] kS_X10_106 (c_X10_isPlace h1) dX10_road_1 rfl rfl ⟨(Nat.le_of_ble_eq_true rfl), (Nat.le_of_ble_eq_true rfl)⟩ ⟨rfl, rfl⟩ ⟨(Nat.zero_le _), (Nat.zero_le _)⟩ (Nat.le_of_ble_eq_true rfl) ?_
  refine g_if_eq X (tgt := 31) dX10_road_4 (by decide) (fun c4 => ?_) (fun c4 => ?_)
  · have hf := it c4 hf
    refine g_bipush X (v := -2) dX10_road_31 (by decide) ?_
    obtain ⟨rfl, rfl⟩ := lf2 hf
    exact hret 33 _ dX10_road_33 rfl
  · have hf := ie c4 hf
    refine g_iload_n X 2 dX10_road_7 rfl rfl ?_
    obtain ⟨r8, m8, h8, hf⟩ := bi_i hf
    refine g_eSI X [.int p1] kS_X10_106 (c_X10_isPlace h8) dX10_road_8 rfl rfl ⟨(Nat.le_of_ble_eq_true rfl), (Nat.le_of_ble_eq_true rfl)⟩ ⟨rfl, rfl⟩ ⟨(Nat.zero_le _), (Nat.zero_le _)⟩ (Nat.le_of_ble_eq_true rfl) ?_
    refine g_if_eq X (tgt := 31) dX10_road_11 (by decide) (fun c11 => ?_) (fun c11 => ?_)
    · have hf := it c11 hf
      refine g_bipush X (v := -2) dX10_road_31 (by decide) ?_
      obtain ⟨rfl, rfl⟩ := lf2 hf
      exact hret 33 _ dX10_road_33 rfl
    · have hf := ie c11 hf
      refine g_iload_n X 1 dX10_road_14 rfl rfl ?_
      refine g_iload_n X 2 dX10_road_15 rfl rfl ?_
      refine g_icmp_eq X (tgt := 31) dX10_road_16 (by decide) (fun c16 => ?_) (fun c16 => ?_)
      · have hf := it c16 hf
        refine g_bipush X (v := -2) dX10_road_31 (by decide) ?_
        obtain ⟨rfl, rfl⟩ := lf2 hf
        exact hret 33 _ dX10_road_33 rfl
      · have hf := ie c16 hf
        refine g_iload_n X 3 dX10_road_19 rfl rfl ?_
        refine g_i2l X dX10_road_20 ?_
        refine g_lconst X (v := 0) dX10_road_21 (by decide) ?_
        refine g_ldc2 X dX10_road_22 q_cl_X10_109 ?_
        obtain ⟨r25, m25, h25, hf⟩ := bi_i hf
        refine g_eSI X [.long p2.toInt64, .long (0 : Int64), .long (99 : Int64)] kS_X10_76 (c_X10_in h25) dX10_road_25 rfl rfl ⟨(Nat.le_of_ble_eq_true rfl), (Nat.le_of_ble_eq_true rfl)⟩ ⟨rfl, rfl⟩ ⟨(Nat.zero_le _), (Nat.zero_le _)⟩ (Nat.le_of_ble_eq_true rfl) ?_
        refine g_if_ne X (tgt := 34) dX10_road_28 (by decide) (fun c28 => ?_) (fun c28 => ?_)
        · have hf := ie c28 hf
          refine g_aload_n X 0 dX10_road_34 rfl rfl ?_
          refine g_getr X (x := ad 67) 63 9 8 dX10_road_35 (sgN (by decide)) rfl (by decide) rfl iw_X10 (by decide) rfl q_fl_X10_23 rfl ?_
          refine g_bipush X (v := 8) dX10_road_38 (by decide) ?_
          refine g_iload_n X 1 dX10_road_40 rfl rfl ?_
          refine g_imul X dX10_road_41 ?_
          refine g_iload_n X 2 dX10_road_42 rfl rfl ?_
          refine g_iadd X dX10_road_43 ?_
          obtain ⟨h44, hf⟩ := grd hf
          refine g_iald X 67 (n := 64) dX10_road_44 (sgN (by decide)) rfl rfl h44 ?_
          refine g_istore X (lv' := [(4, .int (m25.1 67 (((8 : Int32) * p0) + p1).toNatClampNeg)), (0, .ref (ad 63)), (1, .int p0), (2, .int p1), (3, .int p2)]) dX10_road_45 (by decide) rfl ?_
          refine g_aload_n X 1 dX10_road_47 rfl rfl ?_
          refine g_getr X (x := ad 67) 63 9 8 dX10_road_48 (sgN (by decide)) rfl (by decide) rfl iw_X10 (by decide) rfl q_fl_X10_23 rfl ?_
          refine g_bipush X (v := 8) dX10_road_51 (by decide) ?_
          refine g_iload_n X 2 dX10_road_53 rfl rfl ?_
          refine g_imul X dX10_road_54 ?_
          refine g_iload_n X 3 dX10_road_55 rfl rfl ?_
          refine g_iadd X dX10_road_56 ?_
          refine g_iload_n X 4 dX10_road_57 rfl rfl ?_
          obtain ⟨h58, hf⟩ := grd hf
          refine g_iast X 67 (n := 64) dX10_road_58 (sgN (by decide)) rfl rfl h58 ?_
          refine g_aload_n X 1 dX10_road_59 rfl rfl ?_
          refine g_getr X (x := ad 67) 63 9 8 dX10_road_60 (sgN (by decide)) rfl (by decide) rfl iw_X10 (by decide) rfl q_fl_X10_23 rfl ?_
          refine g_bipush X (v := 8) dX10_road_63 (by decide) ?_
          refine g_iload_n X 3 dX10_road_65 rfl rfl ?_
          refine g_imul X dX10_road_66 ?_
          refine g_iload_n X 2 dX10_road_67 rfl rfl ?_
          refine g_iadd X dX10_road_68 ?_
          refine g_iload_n X 4 dX10_road_69 rfl rfl ?_
          obtain ⟨h70, hf⟩ := grd hf
          refine g_iast X 67 (n := 64) dX10_road_70 (sgN (by decide)) rfl rfl h70 ?_
          refine g_aload_n X 1 dX10_road_71 rfl rfl ?_
          obtain ⟨m72, h72, hf⟩ := bv_i hf
          refine g_eVV X 63 9 [] kV_X10_63 (c_X10_spreads h72) dX10_road_72 rfl rfl (sgN (by decide)) rfl (by decide) rfl rfl ⟨(Nat.le_of_ble_eq_true rfl), (Nat.le_of_ble_eq_true rfl)⟩ ⟨rfl, rfl⟩ ⟨(Nat.zero_le _), (Nat.zero_le _)⟩ (Nat.le_of_ble_eq_true rfl) ?_
          refine g_iload X 0 dX10_road_75 rfl ?_
          obtain ⟨rfl, rfl⟩ := lf2 hf
          exact hret 77 _ dX10_road_77 rfl
        · have hf := it c28 hf
          refine g_bipush X (v := -2) dX10_road_31 (by decide) ?_
          obtain ⟨rfl, rfl⟩ := lf2 hf
          exact hret 33 _ dX10_road_33 rfl

def X10_person (p0 : Int32) (p1 : Int32) (p2 : Int32) (m0 : Mem) : Option (Int32 × Mem) :=
  bi (X10_in p0.toInt64 (0 : Int64) (5 : Int64) m0) fun r6 m6 =>
  if r6 = 0 then
    some ((-2 : Int32), m6)
  else
    bi (X10_in p1.toInt64 (0 : Int64) (9 : Int64) m6) fun r18 m18 =>
    if r18 = 0 then
      some ((-2 : Int32), m18)
    else
      bi (X10_in p2.toInt64 (0 : Int64) (255 : Int64) m18) fun r30 m30 =>
      if r30 = 0 then
        some ((-2 : Int32), m30)
      else
        if (m30.1 63 11) = (6 : Int32) then
          some ((-4 : Int32), m30)
        else
          if inn (m30.1 63 11) 6 then
          if inn ((5 : Int32) * ((pI m30 68 (m30.1 63 11).toNatClampNeg p0).1 63 11)) 30 then
          if inn (((5 : Int32) * ((pI (pI m30 68 (m30.1 63 11).toNatClampNeg p0) 69 ((5 : Int32) * ((pI m30 68 (m30.1 63 11).toNatClampNeg p0).1 63 11)).toNatClampNeg p1).1 63 11)) + (1 : Int32)) 30 then
          if inn (((5 : Int32) * ((pI (pI (pI m30 68 (m30.1 63 11).toNatClampNeg p0) 69 ((5 : Int32) * ((pI m30 68 (m30.1 63 11).toNatClampNeg p0).1 63 11)).toNatClampNeg p1) 69 (((5 : Int32) * ((pI (pI m30 68 (m30.1 63 11).toNatClampNeg p0) 69 ((5 : Int32) * ((pI m30 68 (m30.1 63 11).toNatClampNeg p0).1 63 11)).toNatClampNeg p1).1 63 11)) + (1 : Int32)).toNatClampNeg (0 : Int32)).1 63 11)) + (2 : Int32)) 30 then
          if inn (((5 : Int32) * ((pI (pI (pI (pI m30 68 (m30.1 63 11).toNatClampNeg p0) 69 ((5 : Int32) * ((pI m30 68 (m30.1 63 11).toNatClampNeg p0).1 63 11)).toNatClampNeg p1) 69 (((5 : Int32) * ((pI (pI m30 68 (m30.1 63 11).toNatClampNeg p0) 69 ((5 : Int32) * ((pI m30 68 (m30.1 63 11).toNatClampNeg p0).1 63 11)).toNatClampNeg p1).1 63 11)) + (1 : Int32)).toNatClampNeg (0 : Int32)) 69 (((5 : Int32) * ((pI (pI (pI m30 68 (m30.1 63 11).toNatClampNeg p0) 69 ((5 : Int32) * ((pI m30 68 (m30.1 63 11).toNatClampNeg p0).1 63 11)).toNatClampNeg p1) 69 (((5 : Int32) * ((pI (pI m30 68 (m30.1 63 11).toNatClampNeg p0) 69 ((5 : Int32) * ((pI m30 68 (m30.1 63 11).toNatClampNeg p0).1 63 11)).toNatClampNeg p1).1 63 11)) + (1 : Int32)).toNatClampNeg (0 : Int32)).1 63 11)) + (2 : Int32)).toNatClampNeg p2).1 63 11)) + (3 : Int32)) 30 then
          if inn (((5 : Int32) * ((pI (pI (pI (pI (pI m30 68 (m30.1 63 11).toNatClampNeg p0) 69 ((5 : Int32) * ((pI m30 68 (m30.1 63 11).toNatClampNeg p0).1 63 11)).toNatClampNeg p1) 69 (((5 : Int32) * ((pI (pI m30 68 (m30.1 63 11).toNatClampNeg p0) 69 ((5 : Int32) * ((pI m30 68 (m30.1 63 11).toNatClampNeg p0).1 63 11)).toNatClampNeg p1).1 63 11)) + (1 : Int32)).toNatClampNeg (0 : Int32)) 69 (((5 : Int32) * ((pI (pI (pI m30 68 (m30.1 63 11).toNatClampNeg p0) 69 ((5 : Int32) * ((pI m30 68 (m30.1 63 11).toNatClampNeg p0).1 63 11)).toNatClampNeg p1) 69 (((5 : Int32) * ((pI (pI m30 68 (m30.1 63 11).toNatClampNeg p0) 69 ((5 : Int32) * ((pI m30 68 (m30.1 63 11).toNatClampNeg p0).1 63 11)).toNatClampNeg p1).1 63 11)) + (1 : Int32)).toNatClampNeg (0 : Int32)).1 63 11)) + (2 : Int32)).toNatClampNeg p2) 69 (((5 : Int32) * ((pI (pI (pI (pI m30 68 (m30.1 63 11).toNatClampNeg p0) 69 ((5 : Int32) * ((pI m30 68 (m30.1 63 11).toNatClampNeg p0).1 63 11)).toNatClampNeg p1) 69 (((5 : Int32) * ((pI (pI m30 68 (m30.1 63 11).toNatClampNeg p0) 69 ((5 : Int32) * ((pI m30 68 (m30.1 63 11).toNatClampNeg p0).1 63 11)).toNatClampNeg p1).1 63 11)) + (1 : Int32)).toNatClampNeg (0 : Int32)) 69 (((5 : Int32) * ((pI (pI (pI m30 68 (m30.1 63 11).toNatClampNeg p0) 69 ((5 : Int32) * ((pI m30 68 (m30.1 63 11).toNatClampNeg p0).1 63 11)).toNatClampNeg p1) 69 (((5 : Int32) * ((pI (pI m30 68 (m30.1 63 11).toNatClampNeg p0) 69 ((5 : Int32) * ((pI m30 68 (m30.1 63 11).toNatClampNeg p0).1 63 11)).toNatClampNeg p1).1 63 11)) + (1 : Int32)).toNatClampNeg (0 : Int32)).1 63 11)) + (2 : Int32)).toNatClampNeg p2).1 63 11)) + (3 : Int32)).toNatClampNeg (0 : Int32)).1 63 11)) + (4 : Int32)) 30 then
          some (((pI (pI (pI (pI (pI (pI (pI m30 68 (m30.1 63 11).toNatClampNeg p0) 69 ((5 : Int32) * ((pI m30 68 (m30.1 63 11).toNatClampNeg p0).1 63 11)).toNatClampNeg p1) 69 (((5 : Int32) * ((pI (pI m30 68 (m30.1 63 11).toNatClampNeg p0) 69 ((5 : Int32) * ((pI m30 68 (m30.1 63 11).toNatClampNeg p0).1 63 11)).toNatClampNeg p1).1 63 11)) + (1 : Int32)).toNatClampNeg (0 : Int32)) 69 (((5 : Int32) * ((pI (pI (pI m30 68 (m30.1 63 11).toNatClampNeg p0) 69 ((5 : Int32) * ((pI m30 68 (m30.1 63 11).toNatClampNeg p0).1 63 11)).toNatClampNeg p1) 69 (((5 : Int32) * ((pI (pI m30 68 (m30.1 63 11).toNatClampNeg p0) 69 ((5 : Int32) * ((pI m30 68 (m30.1 63 11).toNatClampNeg p0).1 63 11)).toNatClampNeg p1).1 63 11)) + (1 : Int32)).toNatClampNeg (0 : Int32)).1 63 11)) + (2 : Int32)).toNatClampNeg p2) 69 (((5 : Int32) * ((pI (pI (pI (pI m30 68 (m30.1 63 11).toNatClampNeg p0) 69 ((5 : Int32) * ((pI m30 68 (m30.1 63 11).toNatClampNeg p0).1 63 11)).toNatClampNeg p1) 69 (((5 : Int32) * ((pI (pI m30 68 (m30.1 63 11).toNatClampNeg p0) 69 ((5 : Int32) * ((pI m30 68 (m30.1 63 11).toNatClampNeg p0).1 63 11)).toNatClampNeg p1).1 63 11)) + (1 : Int32)).toNatClampNeg (0 : Int32)) 69 (((5 : Int32) * ((pI (pI (pI m30 68 (m30.1 63 11).toNatClampNeg p0) 69 ((5 : Int32) * ((pI m30 68 (m30.1 63 11).toNatClampNeg p0).1 63 11)).toNatClampNeg p1) 69 (((5 : Int32) * ((pI (pI m30 68 (m30.1 63 11).toNatClampNeg p0) 69 ((5 : Int32) * ((pI m30 68 (m30.1 63 11).toNatClampNeg p0).1 63 11)).toNatClampNeg p1).1 63 11)) + (1 : Int32)).toNatClampNeg (0 : Int32)).1 63 11)) + (2 : Int32)).toNatClampNeg p2).1 63 11)) + (3 : Int32)).toNatClampNeg (0 : Int32)) 69 (((5 : Int32) * ((pI (pI (pI (pI (pI m30 68 (m30.1 63 11).toNatClampNeg p0) 69 ((5 : Int32) * ((pI m30 68 (m30.1 63 11).toNatClampNeg p0).1 63 11)).toNatClampNeg p1) 69 (((5 : Int32) * ((pI (pI m30 68 (m30.1 63 11).toNatClampNeg p0) 69 ((5 : Int32) * ((pI m30 68 (m30.1 63 11).toNatClampNeg p0).1 63 11)).toNatClampNeg p1).1 63 11)) + (1 : Int32)).toNatClampNeg (0 : Int32)) 69 (((5 : Int32) * ((pI (pI (pI m30 68 (m30.1 63 11).toNatClampNeg p0) 69 ((5 : Int32) * ((pI m30 68 (m30.1 63 11).toNatClampNeg p0).1 63 11)).toNatClampNeg p1) 69 (((5 : Int32) * ((pI (pI m30 68 (m30.1 63 11).toNatClampNeg p0) 69 ((5 : Int32) * ((pI m30 68 (m30.1 63 11).toNatClampNeg p0).1 63 11)).toNatClampNeg p1).1 63 11)) + (1 : Int32)).toNatClampNeg (0 : Int32)).1 63 11)) + (2 : Int32)).toNatClampNeg p2) 69 (((5 : Int32) * ((pI (pI (pI (pI m30 68 (m30.1 63 11).toNatClampNeg p0) 69 ((5 : Int32) * ((pI m30 68 (m30.1 63 11).toNatClampNeg p0).1 63 11)).toNatClampNeg p1) 69 (((5 : Int32) * ((pI (pI m30 68 (m30.1 63 11).toNatClampNeg p0) 69 ((5 : Int32) * ((pI m30 68 (m30.1 63 11).toNatClampNeg p0).1 63 11)).toNatClampNeg p1).1 63 11)) + (1 : Int32)).toNatClampNeg (0 : Int32)) 69 (((5 : Int32) * ((pI (pI (pI m30 68 (m30.1 63 11).toNatClampNeg p0) 69 ((5 : Int32) * ((pI m30 68 (m30.1 63 11).toNatClampNeg p0).1 63 11)).toNatClampNeg p1) 69 (((5 : Int32) * ((pI (pI m30 68 (m30.1 63 11).toNatClampNeg p0) 69 ((5 : Int32) * ((pI m30 68 (m30.1 63 11).toNatClampNeg p0).1 63 11)).toNatClampNeg p1).1 63 11)) + (1 : Int32)).toNatClampNeg (0 : Int32)).1 63 11)) + (2 : Int32)).toNatClampNeg p2).1 63 11)) + (3 : Int32)).toNatClampNeg (0 : Int32)).1 63 11)) + (4 : Int32)).toNatClampNeg (0 : Int32)) 63 11 (((pI (pI (pI (pI (pI (pI m30 68 (m30.1 63 11).toNatClampNeg p0) 69 ((5 : Int32) * ((pI m30 68 (m30.1 63 11).toNatClampNeg p0).1 63 11)).toNatClampNeg p1) 69 (((5 : Int32) * ((pI (pI m30 68 (m30.1 63 11).toNatClampNeg p0) 69 ((5 : Int32) * ((pI m30 68 (m30.1 63 11).toNatClampNeg p0).1 63 11)).toNatClampNeg p1).1 63 11)) + (1 : Int32)).toNatClampNeg (0 : Int32)) 69 (((5 : Int32) * ((pI (pI (pI m30 68 (m30.1 63 11).toNatClampNeg p0) 69 ((5 : Int32) * ((pI m30 68 (m30.1 63 11).toNatClampNeg p0).1 63 11)).toNatClampNeg p1) 69 (((5 : Int32) * ((pI (pI m30 68 (m30.1 63 11).toNatClampNeg p0) 69 ((5 : Int32) * ((pI m30 68 (m30.1 63 11).toNatClampNeg p0).1 63 11)).toNatClampNeg p1).1 63 11)) + (1 : Int32)).toNatClampNeg (0 : Int32)).1 63 11)) + (2 : Int32)).toNatClampNeg p2) 69 (((5 : Int32) * ((pI (pI (pI (pI m30 68 (m30.1 63 11).toNatClampNeg p0) 69 ((5 : Int32) * ((pI m30 68 (m30.1 63 11).toNatClampNeg p0).1 63 11)).toNatClampNeg p1) 69 (((5 : Int32) * ((pI (pI m30 68 (m30.1 63 11).toNatClampNeg p0) 69 ((5 : Int32) * ((pI m30 68 (m30.1 63 11).toNatClampNeg p0).1 63 11)).toNatClampNeg p1).1 63 11)) + (1 : Int32)).toNatClampNeg (0 : Int32)) 69 (((5 : Int32) * ((pI (pI (pI m30 68 (m30.1 63 11).toNatClampNeg p0) 69 ((5 : Int32) * ((pI m30 68 (m30.1 63 11).toNatClampNeg p0).1 63 11)).toNatClampNeg p1) 69 (((5 : Int32) * ((pI (pI m30 68 (m30.1 63 11).toNatClampNeg p0) 69 ((5 : Int32) * ((pI m30 68 (m30.1 63 11).toNatClampNeg p0).1 63 11)).toNatClampNeg p1).1 63 11)) + (1 : Int32)).toNatClampNeg (0 : Int32)).1 63 11)) + (2 : Int32)).toNatClampNeg p2).1 63 11)) + (3 : Int32)).toNatClampNeg (0 : Int32)) 69 (((5 : Int32) * ((pI (pI (pI (pI (pI m30 68 (m30.1 63 11).toNatClampNeg p0) 69 ((5 : Int32) * ((pI m30 68 (m30.1 63 11).toNatClampNeg p0).1 63 11)).toNatClampNeg p1) 69 (((5 : Int32) * ((pI (pI m30 68 (m30.1 63 11).toNatClampNeg p0) 69 ((5 : Int32) * ((pI m30 68 (m30.1 63 11).toNatClampNeg p0).1 63 11)).toNatClampNeg p1).1 63 11)) + (1 : Int32)).toNatClampNeg (0 : Int32)) 69 (((5 : Int32) * ((pI (pI (pI m30 68 (m30.1 63 11).toNatClampNeg p0) 69 ((5 : Int32) * ((pI m30 68 (m30.1 63 11).toNatClampNeg p0).1 63 11)).toNatClampNeg p1) 69 (((5 : Int32) * ((pI (pI m30 68 (m30.1 63 11).toNatClampNeg p0) 69 ((5 : Int32) * ((pI m30 68 (m30.1 63 11).toNatClampNeg p0).1 63 11)).toNatClampNeg p1).1 63 11)) + (1 : Int32)).toNatClampNeg (0 : Int32)).1 63 11)) + (2 : Int32)).toNatClampNeg p2) 69 (((5 : Int32) * ((pI (pI (pI (pI m30 68 (m30.1 63 11).toNatClampNeg p0) 69 ((5 : Int32) * ((pI m30 68 (m30.1 63 11).toNatClampNeg p0).1 63 11)).toNatClampNeg p1) 69 (((5 : Int32) * ((pI (pI m30 68 (m30.1 63 11).toNatClampNeg p0) 69 ((5 : Int32) * ((pI m30 68 (m30.1 63 11).toNatClampNeg p0).1 63 11)).toNatClampNeg p1).1 63 11)) + (1 : Int32)).toNatClampNeg (0 : Int32)) 69 (((5 : Int32) * ((pI (pI (pI m30 68 (m30.1 63 11).toNatClampNeg p0) 69 ((5 : Int32) * ((pI m30 68 (m30.1 63 11).toNatClampNeg p0).1 63 11)).toNatClampNeg p1) 69 (((5 : Int32) * ((pI (pI m30 68 (m30.1 63 11).toNatClampNeg p0) 69 ((5 : Int32) * ((pI m30 68 (m30.1 63 11).toNatClampNeg p0).1 63 11)).toNatClampNeg p1).1 63 11)) + (1 : Int32)).toNatClampNeg (0 : Int32)).1 63 11)) + (2 : Int32)).toNatClampNeg p2).1 63 11)) + (3 : Int32)).toNatClampNeg (0 : Int32)).1 63 11)) + (4 : Int32)).toNatClampNeg (0 : Int32)).1 63 11) + (1 : Int32))).1 63 11) - (1 : Int32), pI (pI (pI (pI (pI (pI (pI m30 68 (m30.1 63 11).toNatClampNeg p0) 69 ((5 : Int32) * ((pI m30 68 (m30.1 63 11).toNatClampNeg p0).1 63 11)).toNatClampNeg p1) 69 (((5 : Int32) * ((pI (pI m30 68 (m30.1 63 11).toNatClampNeg p0) 69 ((5 : Int32) * ((pI m30 68 (m30.1 63 11).toNatClampNeg p0).1 63 11)).toNatClampNeg p1).1 63 11)) + (1 : Int32)).toNatClampNeg (0 : Int32)) 69 (((5 : Int32) * ((pI (pI (pI m30 68 (m30.1 63 11).toNatClampNeg p0) 69 ((5 : Int32) * ((pI m30 68 (m30.1 63 11).toNatClampNeg p0).1 63 11)).toNatClampNeg p1) 69 (((5 : Int32) * ((pI (pI m30 68 (m30.1 63 11).toNatClampNeg p0) 69 ((5 : Int32) * ((pI m30 68 (m30.1 63 11).toNatClampNeg p0).1 63 11)).toNatClampNeg p1).1 63 11)) + (1 : Int32)).toNatClampNeg (0 : Int32)).1 63 11)) + (2 : Int32)).toNatClampNeg p2) 69 (((5 : Int32) * ((pI (pI (pI (pI m30 68 (m30.1 63 11).toNatClampNeg p0) 69 ((5 : Int32) * ((pI m30 68 (m30.1 63 11).toNatClampNeg p0).1 63 11)).toNatClampNeg p1) 69 (((5 : Int32) * ((pI (pI m30 68 (m30.1 63 11).toNatClampNeg p0) 69 ((5 : Int32) * ((pI m30 68 (m30.1 63 11).toNatClampNeg p0).1 63 11)).toNatClampNeg p1).1 63 11)) + (1 : Int32)).toNatClampNeg (0 : Int32)) 69 (((5 : Int32) * ((pI (pI (pI m30 68 (m30.1 63 11).toNatClampNeg p0) 69 ((5 : Int32) * ((pI m30 68 (m30.1 63 11).toNatClampNeg p0).1 63 11)).toNatClampNeg p1) 69 (((5 : Int32) * ((pI (pI m30 68 (m30.1 63 11).toNatClampNeg p0) 69 ((5 : Int32) * ((pI m30 68 (m30.1 63 11).toNatClampNeg p0).1 63 11)).toNatClampNeg p1).1 63 11)) + (1 : Int32)).toNatClampNeg (0 : Int32)).1 63 11)) + (2 : Int32)).toNatClampNeg p2).1 63 11)) + (3 : Int32)).toNatClampNeg (0 : Int32)) 69 (((5 : Int32) * ((pI (pI (pI (pI (pI m30 68 (m30.1 63 11).toNatClampNeg p0) 69 ((5 : Int32) * ((pI m30 68 (m30.1 63 11).toNatClampNeg p0).1 63 11)).toNatClampNeg p1) 69 (((5 : Int32) * ((pI (pI m30 68 (m30.1 63 11).toNatClampNeg p0) 69 ((5 : Int32) * ((pI m30 68 (m30.1 63 11).toNatClampNeg p0).1 63 11)).toNatClampNeg p1).1 63 11)) + (1 : Int32)).toNatClampNeg (0 : Int32)) 69 (((5 : Int32) * ((pI (pI (pI m30 68 (m30.1 63 11).toNatClampNeg p0) 69 ((5 : Int32) * ((pI m30 68 (m30.1 63 11).toNatClampNeg p0).1 63 11)).toNatClampNeg p1) 69 (((5 : Int32) * ((pI (pI m30 68 (m30.1 63 11).toNatClampNeg p0) 69 ((5 : Int32) * ((pI m30 68 (m30.1 63 11).toNatClampNeg p0).1 63 11)).toNatClampNeg p1).1 63 11)) + (1 : Int32)).toNatClampNeg (0 : Int32)).1 63 11)) + (2 : Int32)).toNatClampNeg p2) 69 (((5 : Int32) * ((pI (pI (pI (pI m30 68 (m30.1 63 11).toNatClampNeg p0) 69 ((5 : Int32) * ((pI m30 68 (m30.1 63 11).toNatClampNeg p0).1 63 11)).toNatClampNeg p1) 69 (((5 : Int32) * ((pI (pI m30 68 (m30.1 63 11).toNatClampNeg p0) 69 ((5 : Int32) * ((pI m30 68 (m30.1 63 11).toNatClampNeg p0).1 63 11)).toNatClampNeg p1).1 63 11)) + (1 : Int32)).toNatClampNeg (0 : Int32)) 69 (((5 : Int32) * ((pI (pI (pI m30 68 (m30.1 63 11).toNatClampNeg p0) 69 ((5 : Int32) * ((pI m30 68 (m30.1 63 11).toNatClampNeg p0).1 63 11)).toNatClampNeg p1) 69 (((5 : Int32) * ((pI (pI m30 68 (m30.1 63 11).toNatClampNeg p0) 69 ((5 : Int32) * ((pI m30 68 (m30.1 63 11).toNatClampNeg p0).1 63 11)).toNatClampNeg p1).1 63 11)) + (1 : Int32)).toNatClampNeg (0 : Int32)).1 63 11)) + (2 : Int32)).toNatClampNeg p2).1 63 11)) + (3 : Int32)).toNatClampNeg (0 : Int32)).1 63 11)) + (4 : Int32)).toNatClampNeg (0 : Int32)) 63 11 (((pI (pI (pI (pI (pI (pI m30 68 (m30.1 63 11).toNatClampNeg p0) 69 ((5 : Int32) * ((pI m30 68 (m30.1 63 11).toNatClampNeg p0).1 63 11)).toNatClampNeg p1) 69 (((5 : Int32) * ((pI (pI m30 68 (m30.1 63 11).toNatClampNeg p0) 69 ((5 : Int32) * ((pI m30 68 (m30.1 63 11).toNatClampNeg p0).1 63 11)).toNatClampNeg p1).1 63 11)) + (1 : Int32)).toNatClampNeg (0 : Int32)) 69 (((5 : Int32) * ((pI (pI (pI m30 68 (m30.1 63 11).toNatClampNeg p0) 69 ((5 : Int32) * ((pI m30 68 (m30.1 63 11).toNatClampNeg p0).1 63 11)).toNatClampNeg p1) 69 (((5 : Int32) * ((pI (pI m30 68 (m30.1 63 11).toNatClampNeg p0) 69 ((5 : Int32) * ((pI m30 68 (m30.1 63 11).toNatClampNeg p0).1 63 11)).toNatClampNeg p1).1 63 11)) + (1 : Int32)).toNatClampNeg (0 : Int32)).1 63 11)) + (2 : Int32)).toNatClampNeg p2) 69 (((5 : Int32) * ((pI (pI (pI (pI m30 68 (m30.1 63 11).toNatClampNeg p0) 69 ((5 : Int32) * ((pI m30 68 (m30.1 63 11).toNatClampNeg p0).1 63 11)).toNatClampNeg p1) 69 (((5 : Int32) * ((pI (pI m30 68 (m30.1 63 11).toNatClampNeg p0) 69 ((5 : Int32) * ((pI m30 68 (m30.1 63 11).toNatClampNeg p0).1 63 11)).toNatClampNeg p1).1 63 11)) + (1 : Int32)).toNatClampNeg (0 : Int32)) 69 (((5 : Int32) * ((pI (pI (pI m30 68 (m30.1 63 11).toNatClampNeg p0) 69 ((5 : Int32) * ((pI m30 68 (m30.1 63 11).toNatClampNeg p0).1 63 11)).toNatClampNeg p1) 69 (((5 : Int32) * ((pI (pI m30 68 (m30.1 63 11).toNatClampNeg p0) 69 ((5 : Int32) * ((pI m30 68 (m30.1 63 11).toNatClampNeg p0).1 63 11)).toNatClampNeg p1).1 63 11)) + (1 : Int32)).toNatClampNeg (0 : Int32)).1 63 11)) + (2 : Int32)).toNatClampNeg p2).1 63 11)) + (3 : Int32)).toNatClampNeg (0 : Int32)) 69 (((5 : Int32) * ((pI (pI (pI (pI (pI m30 68 (m30.1 63 11).toNatClampNeg p0) 69 ((5 : Int32) * ((pI m30 68 (m30.1 63 11).toNatClampNeg p0).1 63 11)).toNatClampNeg p1) 69 (((5 : Int32) * ((pI (pI m30 68 (m30.1 63 11).toNatClampNeg p0) 69 ((5 : Int32) * ((pI m30 68 (m30.1 63 11).toNatClampNeg p0).1 63 11)).toNatClampNeg p1).1 63 11)) + (1 : Int32)).toNatClampNeg (0 : Int32)) 69 (((5 : Int32) * ((pI (pI (pI m30 68 (m30.1 63 11).toNatClampNeg p0) 69 ((5 : Int32) * ((pI m30 68 (m30.1 63 11).toNatClampNeg p0).1 63 11)).toNatClampNeg p1) 69 (((5 : Int32) * ((pI (pI m30 68 (m30.1 63 11).toNatClampNeg p0) 69 ((5 : Int32) * ((pI m30 68 (m30.1 63 11).toNatClampNeg p0).1 63 11)).toNatClampNeg p1).1 63 11)) + (1 : Int32)).toNatClampNeg (0 : Int32)).1 63 11)) + (2 : Int32)).toNatClampNeg p2) 69 (((5 : Int32) * ((pI (pI (pI (pI m30 68 (m30.1 63 11).toNatClampNeg p0) 69 ((5 : Int32) * ((pI m30 68 (m30.1 63 11).toNatClampNeg p0).1 63 11)).toNatClampNeg p1) 69 (((5 : Int32) * ((pI (pI m30 68 (m30.1 63 11).toNatClampNeg p0) 69 ((5 : Int32) * ((pI m30 68 (m30.1 63 11).toNatClampNeg p0).1 63 11)).toNatClampNeg p1).1 63 11)) + (1 : Int32)).toNatClampNeg (0 : Int32)) 69 (((5 : Int32) * ((pI (pI (pI m30 68 (m30.1 63 11).toNatClampNeg p0) 69 ((5 : Int32) * ((pI m30 68 (m30.1 63 11).toNatClampNeg p0).1 63 11)).toNatClampNeg p1) 69 (((5 : Int32) * ((pI (pI m30 68 (m30.1 63 11).toNatClampNeg p0) 69 ((5 : Int32) * ((pI m30 68 (m30.1 63 11).toNatClampNeg p0).1 63 11)).toNatClampNeg p1).1 63 11)) + (1 : Int32)).toNatClampNeg (0 : Int32)).1 63 11)) + (2 : Int32)).toNatClampNeg p2).1 63 11)) + (3 : Int32)).toNatClampNeg (0 : Int32)).1 63 11)) + (4 : Int32)).toNatClampNeg (0 : Int32)).1 63 11) + (1 : Int32)))
          else none
          else none
          else none
          else none
          else none
          else none
abbrev rmX10_person : Room := { frames := 1, cells := 0, slots := 0, locals := 25 }

set_option maxRecDepth 100000 in
set_option maxHeartbeats 4000000 in
theorem c_X10_person {l : Launch} {G : GG} {b : Nat} {ad : Nat → Nat} {nt : Nat} {z : Nat → Nat} {p0 : Int32} {p1 : Int32} {p2 : Int32} {m0 : Mem} {r9 : Int32} {m9 : Mem} (hf : X10_person p0 p1 p2 m0 = some (r9, m9)) : MtI l yX10_person cX10_person 4 (some .int) rmX10_person G b (sg ad nt z) m0 [.ref (ad 63), .int p0, .int p1, .int p2] (pEI r9 (sg ad nt z) m9) := by
  refine mtI_of (by decide) (Nat.le_of_ble_eq_true rfl) .int rfl (fun Γ hG X hnm hr => ?_)
  have hret : ∀ (pc : Nat) (lv : List (Nat × Value)), decode cX10_person pc = .ok (.ireturn, 1) → narrow .int (.int r9) = .int r9 → Go Γ b (sg ad nt z) 0 0 pc lv [.int r9] m9 := fun pc lv d hn => hr pc lv _ _ _ d ⟨rfl, rfl, rfl⟩ hn
  show Go Γ b (sg ad nt z) 0 0 0 [(0, .ref (ad 63)), (1, .int p0), (2, .int p1), (3, .int p2)] [] m0
  refine g_iload_n X 1 dX10_person_0 rfl rfl ?_
  refine g_i2l X dX10_person_1 ?_
  refine g_lconst X (v := 0) dX10_person_2 (by decide) ?_
  refine g_ldc2 X dX10_person_3 q_cl_X10_111 ?_
  obtain ⟨r6, m6, h6, hf⟩ := bi_i hf
  refine g_eSI X [.long p0.toInt64, .long (0 : Int64), .long (5 : Int64)] kS_X10_76 (c_X10_in h6) dX10_person_6 rfl rfl ⟨(Nat.le_of_ble_eq_true rfl), (Nat.le_of_ble_eq_true rfl)⟩ ⟨rfl, rfl⟩ ⟨(Nat.zero_le _), (Nat.zero_le _)⟩ (Nat.le_of_ble_eq_true rfl) ?_
  refine g_if_eq X (tgt := 36) dX10_person_9 (by decide) (fun c9 => ?_) (fun c9 => ?_)
  · have hf := it c9 hf
    refine g_bipush X (v := -2) dX10_person_36 (by decide) ?_
    obtain ⟨rfl, rfl⟩ := lf2 hf
    exact hret 38 _ dX10_person_38 rfl
  · have hf := ie c9 hf
    refine g_iload_n X 2 dX10_person_12 rfl rfl ?_
    refine g_i2l X dX10_person_13 ?_
    refine g_lconst X (v := 0) dX10_person_14 (by decide) ?_
    refine g_ldc2 X dX10_person_15 q_cl_X10_113 ?_
    obtain ⟨r18, m18, h18, hf⟩ := bi_i hf
    refine g_eSI X [.long p1.toInt64, .long (0 : Int64), .long (9 : Int64)] kS_X10_76 (c_X10_in h18) dX10_person_18 rfl rfl ⟨(Nat.le_of_ble_eq_true rfl), (Nat.le_of_ble_eq_true rfl)⟩ ⟨rfl, rfl⟩ ⟨(Nat.zero_le _), (Nat.zero_le _)⟩ (Nat.le_of_ble_eq_true rfl) ?_
    refine g_if_eq X (tgt := 36) dX10_person_21 (by decide) (fun c21 => ?_) (fun c21 => ?_)
    · have hf := it c21 hf
      refine g_bipush X (v := -2) dX10_person_36 (by decide) ?_
      obtain ⟨rfl, rfl⟩ := lf2 hf
      exact hret 38 _ dX10_person_38 rfl
    · have hf := ie c21 hf
      refine g_iload_n X 3 dX10_person_24 rfl rfl ?_
      refine g_i2l X dX10_person_25 ?_
      refine g_lconst X (v := 0) dX10_person_26 (by decide) ?_
      refine g_ldc2 X dX10_person_27 q_cl_X10_115 ?_
      obtain ⟨r30, m30, h30, hf⟩ := bi_i hf
      refine g_eSI X [.long p2.toInt64, .long (0 : Int64), .long (255 : Int64)] kS_X10_76 (c_X10_in h30) dX10_person_30 rfl rfl ⟨(Nat.le_of_ble_eq_true rfl), (Nat.le_of_ble_eq_true rfl)⟩ ⟨rfl, rfl⟩ ⟨(Nat.zero_le _), (Nat.zero_le _)⟩ (Nat.le_of_ble_eq_true rfl) ?_
      refine g_if_ne X (tgt := 39) dX10_person_33 (by decide) (fun c33 => ?_) (fun c33 => ?_)
      · have hf := ie c33 hf
        refine g_aload_n X 0 dX10_person_39 rfl rfl ?_
        refine g_getI X 63 9 11 dX10_person_40 (sgN (by decide)) rfl (by decide) rfl iw_X10 (by decide) rfl q_fl_X10_73 ?_
        refine g_bipush X (v := 6) dX10_person_43 (by decide) ?_
        refine g_icmp_ne X (tgt := 51) dX10_person_45 (by decide) (fun c45 => ?_) (fun c45 => ?_)
        · have hf := ie c45 hf
          refine g_aload_n X 0 dX10_person_51 rfl rfl ?_
          refine g_getr X (x := ad 68) 63 9 9 dX10_person_52 (sgN (by decide)) rfl (by decide) rfl iw_X10 (by decide) rfl q_fl_X10_26 rfl ?_
          refine g_aload_n X 0 dX10_person_55 rfl rfl ?_
          refine g_getI X 63 9 11 dX10_person_56 (sgN (by decide)) rfl (by decide) rfl iw_X10 (by decide) rfl q_fl_X10_73 ?_
          refine g_iload_n X 1 dX10_person_59 rfl rfl ?_
          obtain ⟨h60, hf⟩ := grd hf
          refine g_iast X 68 (n := 6) dX10_person_60 (sgN (by decide)) rfl rfl h60 ?_
          refine g_aload_n X 0 dX10_person_61 rfl rfl ?_
          refine g_getr X (x := ad 69) 63 9 10 dX10_person_62 (sgN (by decide)) rfl (by decide) rfl iw_X10 (by decide) rfl q_fl_X10_29 rfl ?_
          refine g_iconst X (v := 5) dX10_person_65 (by decide) ?_
          refine g_aload_n X 0 dX10_person_66 rfl rfl ?_
          refine g_getI X 63 9 11 dX10_person_67 (sgN (by decide)) rfl (by decide) rfl iw_X10 (by decide) rfl q_fl_X10_73 ?_
          refine g_imul X dX10_person_70 ?_
          refine g_iload_n X 2 dX10_person_71 rfl rfl ?_
          obtain ⟨h72, hf⟩ := grd hf
          refine g_iast X 69 (n := 30) dX10_person_72 (sgN (by decide)) rfl rfl h72 ?_
          refine g_aload_n X 0 dX10_person_73 rfl rfl ?_
          refine g_getr X (x := ad 69) 63 9 10 dX10_person_74 (sgN (by decide)) rfl (by decide) rfl iw_X10 (by decide) rfl q_fl_X10_29 rfl ?_
          refine g_iconst X (v := 5) dX10_person_77 (by decide) ?_
          refine g_aload_n X 0 dX10_person_78 rfl rfl ?_
          refine g_getI X 63 9 11 dX10_person_79 (sgN (by decide)) rfl (by decide) rfl iw_X10 (by decide) rfl q_fl_X10_73 ?_
          refine g_imul X dX10_person_82 ?_
          refine g_iconst X (v := 1) dX10_person_83 (by decide) ?_
          refine g_iadd X dX10_person_84 ?_
          refine g_iconst X (v := 0) dX10_person_85 (by decide) ?_
          obtain ⟨h86, hf⟩ := grd hf
          refine g_iast X 69 (n := 30) dX10_person_86 (sgN (by decide)) rfl rfl h86 ?_
          refine g_aload_n X 0 dX10_person_87 rfl rfl ?_
          refine g_getr X (x := ad 69) 63 9 10 dX10_person_88 (sgN (by decide)) rfl (by decide) rfl iw_X10 (by decide) rfl q_fl_X10_29 rfl ?_
          refine g_iconst X (v := 5) dX10_person_91 (by decide) ?_
          refine g_aload_n X 0 dX10_person_92 rfl rfl ?_
          refine g_getI X 63 9 11 dX10_person_93 (sgN (by decide)) rfl (by decide) rfl iw_X10 (by decide) rfl q_fl_X10_73 ?_
          refine g_imul X dX10_person_96 ?_
          refine g_iconst X (v := 2) dX10_person_97 (by decide) ?_
          refine g_iadd X dX10_person_98 ?_
          refine g_iload_n X 3 dX10_person_99 rfl rfl ?_
          obtain ⟨h100, hf⟩ := grd hf
          refine g_iast X 69 (n := 30) dX10_person_100 (sgN (by decide)) rfl rfl h100 ?_
          refine g_aload_n X 0 dX10_person_101 rfl rfl ?_
          refine g_getr X (x := ad 69) 63 9 10 dX10_person_102 (sgN (by decide)) rfl (by decide) rfl iw_X10 (by decide) rfl q_fl_X10_29 rfl ?_
          refine g_iconst X (v := 5) dX10_person_105 (by decide) ?_
          refine g_aload_n X 0 dX10_person_106 rfl rfl ?_
          refine g_getI X 63 9 11 dX10_person_107 (sgN (by decide)) rfl (by decide) rfl iw_X10 (by decide) rfl q_fl_X10_73 ?_
          refine g_imul X dX10_person_110 ?_
          refine g_iconst X (v := 3) dX10_person_111 (by decide) ?_
          refine g_iadd X dX10_person_112 ?_
          refine g_iconst X (v := 0) dX10_person_113 (by decide) ?_
          obtain ⟨h114, hf⟩ := grd hf
          refine g_iast X 69 (n := 30) dX10_person_114 (sgN (by decide)) rfl rfl h114 ?_
          refine g_aload_n X 0 dX10_person_115 rfl rfl ?_
          refine g_getr X (x := ad 69) 63 9 10 dX10_person_116 (sgN (by decide)) rfl (by decide) rfl iw_X10 (by decide) rfl q_fl_X10_29 rfl ?_
          refine g_iconst X (v := 5) dX10_person_119 (by decide) ?_
          refine g_aload_n X 0 dX10_person_120 rfl rfl ?_
          refine g_getI X 63 9 11 dX10_person_121 (sgN (by decide)) rfl (by decide) rfl iw_X10 (by decide) rfl q_fl_X10_73 ?_
          refine g_imul X dX10_person_124 ?_
          refine g_iconst X (v := 4) dX10_person_125 (by decide) ?_
          refine g_iadd X dX10_person_126 ?_
          refine g_iconst X (v := 0) dX10_person_127 (by decide) ?_
          obtain ⟨h128, hf⟩ := grd hf
          refine g_iast X 69 (n := 30) dX10_person_128 (sgN (by decide)) rfl rfl h128 ?_
          refine g_aload_n X 0 dX10_person_129 rfl rfl ?_
          refine g_dup X dX10_person_130 rfl ?_
          refine g_getI X 63 9 11 dX10_person_131 (sgN (by decide)) rfl (by decide) rfl iw_X10 (by decide) rfl q_fl_X10_73 ?_
          refine g_iconst X (v := 1) dX10_person_134 (by decide) ?_
          refine g_iadd X dX10_person_135 ?_
          refine g_putI X (tyf := tyX10) 63 9 11 dX10_person_136 (sgN (by decide)) rfl (by decide) rfl iw_X10 (by decide) rfl q_fl_X10_73 tyX10_ok nmX10 rfl rfl rfl ?_
          refine g_aload_n X 0 dX10_person_139 rfl rfl ?_
          refine g_getI X 63 9 11 dX10_person_140 (sgN (by decide)) rfl (by decide) rfl iw_X10 (by decide) rfl q_fl_X10_73 ?_
          refine g_iconst X (v := 1) dX10_person_143 (by decide) ?_
          refine g_isub X dX10_person_144 ?_
          obtain ⟨rfl, rfl⟩ := lf2 hf
          exact hret 145 _ dX10_person_145 rfl
        · have hf := it c45 hf
          refine g_bipush X (v := -4) dX10_person_48 (by decide) ?_
          obtain ⟨rfl, rfl⟩ := lf2 hf
          exact hret 50 _ dX10_person_50 rfl
      · have hf := it c33 hf
        refine g_bipush X (v := -2) dX10_person_36 (by decide) ?_
        obtain ⟨rfl, rfl⟩ := lf2 hf
        exact hret 38 _ dX10_person_38 rfl

def X10_feed (p0 : Int32) (m0 : Mem) : Option (Int32 × Mem) :=
  bi (X10_in p0.toInt64 (0 : Int64) (255 : Int64) m0) fun r6 m6 =>
  if r6 = 0 then
    some ((-2 : Int32), m6)
  else
    if (m6.1 63 6) = (160 : Int32) then
      some ((-4 : Int32), m6)
    else
      if inn (m6.1 63 6) 160 then
      some ((pI (pI m6 66 (m6.1 63 6).toNatClampNeg p0) 63 6 (((pI m6 66 (m6.1 63 6).toNatClampNeg p0).1 63 6) + (1 : Int32))).1 63 6, pI (pI m6 66 (m6.1 63 6).toNatClampNeg p0) 63 6 (((pI m6 66 (m6.1 63 6).toNatClampNeg p0).1 63 6) + (1 : Int32)))
      else none
abbrev rmX10_feed : Room := { frames := 1, cells := 0, slots := 0, locals := 25 }

set_option maxRecDepth 100000 in
set_option maxHeartbeats 4000000 in
theorem c_X10_feed {l : Launch} {G : GG} {b : Nat} {ad : Nat → Nat} {nt : Nat} {z : Nat → Nat} {p0 : Int32} {m0 : Mem} {r9 : Int32} {m9 : Mem} (hf : X10_feed p0 m0 = some (r9, m9)) : MtI l yX10_feed cX10_feed 2 (some .int) rmX10_feed G b (sg ad nt z) m0 [.ref (ad 63), .int p0] (pEI r9 (sg ad nt z) m9) := by
  refine mtI_of (by decide) (Nat.le_of_ble_eq_true rfl) .int rfl (fun Γ hG X hnm hr => ?_)
  have hret : ∀ (pc : Nat) (lv : List (Nat × Value)), decode cX10_feed pc = .ok (.ireturn, 1) → narrow .int (.int r9) = .int r9 → Go Γ b (sg ad nt z) 0 0 pc lv [.int r9] m9 := fun pc lv d hn => hr pc lv _ _ _ d ⟨rfl, rfl, rfl⟩ hn
  show Go Γ b (sg ad nt z) 0 0 0 [(0, .ref (ad 63)), (1, .int p0)] [] m0
  refine g_iload_n X 1 dX10_feed_0 rfl rfl ?_
  refine g_i2l X dX10_feed_1 ?_
  refine g_lconst X (v := 0) dX10_feed_2 (by decide) ?_
  refine g_ldc2 X dX10_feed_3 q_cl_X10_115 ?_
  obtain ⟨r6, m6, h6, hf⟩ := bi_i hf
  refine g_eSI X [.long p0.toInt64, .long (0 : Int64), .long (255 : Int64)] kS_X10_76 (c_X10_in h6) dX10_feed_6 rfl rfl ⟨(Nat.le_of_ble_eq_true rfl), (Nat.le_of_ble_eq_true rfl)⟩ ⟨rfl, rfl⟩ ⟨(Nat.zero_le _), (Nat.zero_le _)⟩ (Nat.le_of_ble_eq_true rfl) ?_
  refine g_if_ne X (tgt := 15) dX10_feed_9 (by decide) (fun c9 => ?_) (fun c9 => ?_)
  · have hf := ie c9 hf
    refine g_aload_n X 0 dX10_feed_15 rfl rfl ?_
    refine g_getI X 63 9 6 dX10_feed_16 (sgN (by decide)) rfl (by decide) rfl iw_X10 (by decide) rfl q_fl_X10_147 ?_
    refine g_sipush X (v := 160) dX10_feed_19 (by decide) ?_
    refine g_icmp_ne X (tgt := 28) dX10_feed_22 (by decide) (fun c22 => ?_) (fun c22 => ?_)
    · have hf := ie c22 hf
      refine g_aload_n X 0 dX10_feed_28 rfl rfl ?_
      refine g_getr X (x := ad 66) 63 9 5 dX10_feed_29 (sgN (by decide)) rfl (by decide) rfl iw_X10 (by decide) rfl q_fl_X10_20 rfl ?_
      refine g_aload_n X 0 dX10_feed_32 rfl rfl ?_
      refine g_getI X 63 9 6 dX10_feed_33 (sgN (by decide)) rfl (by decide) rfl iw_X10 (by decide) rfl q_fl_X10_147 ?_
      refine g_iload_n X 1 dX10_feed_36 rfl rfl ?_
      obtain ⟨h37, hf⟩ := grd hf
      refine g_iast X 66 (n := 160) dX10_feed_37 (sgN (by decide)) rfl rfl h37 ?_
      refine g_aload_n X 0 dX10_feed_38 rfl rfl ?_
      refine g_dup X dX10_feed_39 rfl ?_
      refine g_getI X 63 9 6 dX10_feed_40 (sgN (by decide)) rfl (by decide) rfl iw_X10 (by decide) rfl q_fl_X10_147 ?_
      refine g_iconst X (v := 1) dX10_feed_43 (by decide) ?_
      refine g_iadd X dX10_feed_44 ?_
      refine g_putI X (tyf := tyX10) 63 9 6 dX10_feed_45 (sgN (by decide)) rfl (by decide) rfl iw_X10 (by decide) rfl q_fl_X10_147 tyX10_ok nmX10 rfl rfl rfl ?_
      refine g_aload_n X 0 dX10_feed_48 rfl rfl ?_
      refine g_getI X 63 9 6 dX10_feed_49 (sgN (by decide)) rfl (by decide) rfl iw_X10 (by decide) rfl q_fl_X10_147 ?_
      obtain ⟨rfl, rfl⟩ := lf2 hf
      exact hret 52 _ dX10_feed_52 rfl
    · have hf := it c22 hf
      refine g_bipush X (v := -4) dX10_feed_25 (by decide) ?_
      obtain ⟨rfl, rfl⟩ := lf2 hf
      exact hret 27 _ dX10_feed_27 rfl
  · have hf := it c9 hf
    refine g_bipush X (v := -2) dX10_feed_12 (by decide) ?_
    obtain ⟨rfl, rfl⟩ := lf2 hf
    exact hret 14 _ dX10_feed_14 rfl

def X10_text_14 : Nat → Int32 → Mem → Option (Int32 × Mem)
  | 0, _, _ => none
  | n + 1, v1, m0 =>
    if (m0.1 63 6) ≤ v1 then
      if inn (m0.1 63 3) 6 then
      bi (X10_read ((pI (pI m0 65 (m0.1 63 3).toNatClampNeg (m0.1 63 6)) 63 6 (0 : Int32)).1 63 3) (0 : Int32) (pI (pI m0 65 (m0.1 63 3).toNatClampNeg (m0.1 63 6)) 63 6 (0 : Int32))) fun r73 m73 =>
      if (m73.1 63 26) = 0 then
        some (((pI m73 63 3 ((m73.1 63 3) + (1 : Int32))).1 63 3) - (1 : Int32), pI m73 63 3 ((m73.1 63 3) + (1 : Int32)))
      else
        some ((-100 : Int32) - (m73.1 63 27), m73)
      else none
    else
      if inn v1 160 then
      if inn (((160 : Int32) * (m0.1 63 3)) + v1) 960 then
      X10_text_14 n (v1 + (1 : Int32)) (pI m0 64 (((160 : Int32) * (m0.1 63 3)) + v1).toNatClampNeg (m0.1 66 v1.toNatClampNeg))
      else none
      else none
def X10_text (m0 : Mem) : Option (Int32 × Mem) :=
  if (m0.1 63 3) = (6 : Int32) then
    some ((-4 : Int32), m0)
  else
    X10_text_14 10000 (0 : Int32) m0
abbrev rmX10_text : Room := { frames := 42, cells := 0, slots := 0, locals := 930 }
set_option maxRecDepth 100000 in
set_option maxHeartbeats 4000000 in
theorem w_X10_text_14 {Γ : Ga} {b : Nat} {ad : Nat → Nat} {nt : Nat} {z : Nat → Nat} {r9 : Int32} {m9 : Mem} (X : Cx Γ b cX10_text 2 RX10 (some .int) rmX10_text) (hret : ∀ (pc : Nat) (lv : List (Nat × Value)), decode cX10_text pc = .ok (.ireturn, 1) → narrow .int (.int r9) = .int r9 → Go Γ b (sg ad nt z) 0 0 pc lv [.int r9] m9) : ∀ (n : Nat) (v1 : Int32) (m0 : Mem), X10_text_14 n v1 m0 = some (r9, m9) → Go Γ b (sg ad nt z) 0 0 14 [(0, .ref (ad 63)), (1, .int v1)] [] m0 := by
  intro n
  induction n with
  | zero =>
    intro v1 m0 hf
    cases hf
  | succ n ih =>
    intro v1 m0 hf
    refine g_iload_n X 1 dX10_text_14 rfl rfl ?_
    refine g_aload_n X 0 dX10_text_15 rfl rfl ?_
    refine g_getI X 63 9 6 dX10_text_16 (sgN (by decide)) rfl (by decide) rfl iw_X10 (by decide) rfl q_fl_X10_147 ?_
    refine g_icmp_ge X (tgt := 49) dX10_text_19 (by decide) (fun c19 => ?_) (fun c19 => ?_)
    · have hf := it c19 hf
      refine g_aload_n X 0 dX10_text_49 rfl rfl ?_
      refine g_getr X (x := ad 65) 63 9 2 dX10_text_50 (sgN (by decide)) rfl (by decide) rfl iw_X10 (by decide) rfl q_fl_X10_17 rfl ?_
      refine g_aload_n X 0 dX10_text_53 rfl rfl ?_
      refine g_getI X 63 9 3 dX10_text_54 (sgN (by decide)) rfl (by decide) rfl iw_X10 (by decide) rfl q_fl_X10_70 ?_
      refine g_aload_n X 0 dX10_text_57 rfl rfl ?_
      refine g_getI X 63 9 6 dX10_text_58 (sgN (by decide)) rfl (by decide) rfl iw_X10 (by decide) rfl q_fl_X10_147 ?_
      obtain ⟨h61, hf⟩ := grd hf
      refine g_iast X 65 (n := 6) dX10_text_61 (sgN (by decide)) rfl rfl h61 ?_
      refine g_aload_n X 0 dX10_text_62 rfl rfl ?_
      refine g_iconst X (v := 0) dX10_text_63 (by decide) ?_
      refine g_putI X (tyf := tyX10) 63 9 6 dX10_text_64 (sgN (by decide)) rfl (by decide) rfl iw_X10 (by decide) rfl q_fl_X10_147 tyX10_ok nmX10 rfl rfl rfl ?_
      refine g_aload_n X 0 dX10_text_67 rfl rfl ?_
      refine g_aload_n X 0 dX10_text_68 rfl rfl ?_
      refine g_getI X 63 9 3 dX10_text_69 (sgN (by decide)) rfl (by decide) rfl iw_X10 (by decide) rfl q_fl_X10_70 ?_
      refine g_iconst X (v := 0) dX10_text_72 (by decide) ?_
      obtain ⟨r73, m73, h73, hf⟩ := bi_i hf
      refine g_eVI X 63 9 [.int ((pI (pI m0 65 (m0.1 63 3).toNatClampNeg (m0.1 63 6)) 63 6 (0 : Int32)).1 63 3), .int (0 : Int32)] kV_X10_348 (c_X10_read h73) dX10_text_73 rfl rfl (sgN (by decide)) rfl (by decide) rfl rfl ⟨(Nat.le_of_ble_eq_true rfl), (Nat.le_of_ble_eq_true rfl)⟩ ⟨rfl, rfl⟩ ⟨(Nat.zero_le _), (Nat.zero_le _)⟩ (Nat.le_of_ble_eq_true rfl) ?_
      refine g_istore_n X (lv' := [(1, .int r73), (0, .ref (ad 63))]) dX10_text_76 rfl (by decide) rfl ?_
      refine g_aload_n X 1 dX10_text_77 rfl rfl ?_
      refine g_getI X 63 9 26 dX10_text_78 (sgN (by decide)) rfl (by decide) rfl iw_X10 (by decide) rfl q_fl_X10_180 ?_
      refine g_if_eq X (tgt := 92) dX10_text_81 (by decide) (fun c81 => ?_) (fun c81 => ?_)
      · have hf := it c81 hf
        refine g_aload_n X 1 dX10_text_92 rfl rfl ?_
        refine g_dup X dX10_text_93 rfl ?_
        refine g_getI X 63 9 3 dX10_text_94 (sgN (by decide)) rfl (by decide) rfl iw_X10 (by decide) rfl q_fl_X10_70 ?_
        refine g_iconst X (v := 1) dX10_text_97 (by decide) ?_
        refine g_iadd X dX10_text_98 ?_
        refine g_putI X (tyf := tyX10) 63 9 3 dX10_text_99 (sgN (by decide)) rfl (by decide) rfl iw_X10 (by decide) rfl q_fl_X10_70 tyX10_ok nmX10 rfl rfl rfl ?_
        refine g_aload_n X 1 dX10_text_102 rfl rfl ?_
        refine g_getI X 63 9 3 dX10_text_103 (sgN (by decide)) rfl (by decide) rfl iw_X10 (by decide) rfl q_fl_X10_70 ?_
        refine g_iconst X (v := 1) dX10_text_106 (by decide) ?_
        refine g_isub X dX10_text_107 ?_
        obtain ⟨rfl, rfl⟩ := lf2 hf
        exact hret 108 _ dX10_text_108 rfl
      · have hf := ie c81 hf
        refine g_bipush X (v := -100) dX10_text_84 (by decide) ?_
        refine g_aload_n X 1 dX10_text_86 rfl rfl ?_
        refine g_getI X 63 9 27 dX10_text_87 (sgN (by decide)) rfl (by decide) rfl iw_X10 (by decide) rfl q_fl_X10_184 ?_
        refine g_isub X dX10_text_90 ?_
        obtain ⟨rfl, rfl⟩ := lf2 hf
        exact hret 91 _ dX10_text_91 rfl
    · have hf := ie c19 hf
      refine g_aload_n X 0 dX10_text_22 rfl rfl ?_
      refine g_getr X (x := ad 64) 63 9 1 dX10_text_23 (sgN (by decide)) rfl (by decide) rfl iw_X10 (by decide) rfl q_fl_X10_13 rfl ?_
      refine g_sipush X (v := 160) dX10_text_26 (by decide) ?_
      refine g_aload_n X 0 dX10_text_29 rfl rfl ?_
      refine g_getI X 63 9 3 dX10_text_30 (sgN (by decide)) rfl (by decide) rfl iw_X10 (by decide) rfl q_fl_X10_70 ?_
      refine g_imul X dX10_text_33 ?_
      refine g_iload_n X 1 dX10_text_34 rfl rfl ?_
      refine g_iadd X dX10_text_35 ?_
      refine g_aload_n X 0 dX10_text_36 rfl rfl ?_
      refine g_getr X (x := ad 66) 63 9 5 dX10_text_37 (sgN (by decide)) rfl (by decide) rfl iw_X10 (by decide) rfl q_fl_X10_20 rfl ?_
      refine g_iload_n X 1 dX10_text_40 rfl rfl ?_
      obtain ⟨h41, hf⟩ := grd hf
      refine g_iald X 66 (n := 160) dX10_text_41 (sgN (by decide)) rfl rfl h41 ?_
      obtain ⟨h42, hf⟩ := grd hf
      refine g_iast X 64 (n := 960) dX10_text_42 (sgN (by decide)) rfl rfl h42 ?_
      refine g_iinc X 1 (v := v1 + (1 : Int32)) (lv' := [(1, .int (v1 + (1 : Int32))), (0, .ref (ad 63))]) dX10_text_43 rfl rfl (by decide) rfl ?_
      refine g_goto X (tgt := 14) dX10_text_46 (by decide) ?_
      refine g_pick [1, 0] (lv' := [(0, .ref (ad 63)), (1, .int (v1 + (1 : Int32)))]) rfl ?_
      exact ih (v1 + (1 : Int32)) (pI m0 64 (((160 : Int32) * (m0.1 63 3)) + v1).toNatClampNeg (m0.1 66 v1.toNatClampNeg)) hf
set_option maxRecDepth 100000 in
set_option maxHeartbeats 4000000 in
theorem c_X10_text {l : Launch} {G : GG} {b : Nat} {ad : Nat → Nat} {nt : Nat} {z : Nat → Nat} {m0 : Mem} {r9 : Int32} {m9 : Mem} (hf : X10_text m0 = some (r9, m9)) : MtI l yX10_text cX10_text 2 (some .int) rmX10_text G b (sg ad nt z) m0 [.ref (ad 63)] (pEI r9 (sg ad nt z) m9) := by
  refine mtI_of (by decide) (Nat.le_of_ble_eq_true rfl) .int rfl (fun Γ hG X hnm hr => ?_)
  have hret : ∀ (pc : Nat) (lv : List (Nat × Value)), decode cX10_text pc = .ok (.ireturn, 1) → narrow .int (.int r9) = .int r9 → Go Γ b (sg ad nt z) 0 0 pc lv [.int r9] m9 := fun pc lv d hn => hr pc lv _ _ _ d ⟨rfl, rfl, rfl⟩ hn
  show Go Γ b (sg ad nt z) 0 0 0 [(0, .ref (ad 63))] [] m0
  refine g_aload_n X 0 dX10_text_0 rfl rfl ?_
  refine g_getI X 63 9 3 dX10_text_1 (sgN (by decide)) rfl (by decide) rfl iw_X10 (by decide) rfl q_fl_X10_70 ?_
  refine g_bipush X (v := 6) dX10_text_4 (by decide) ?_
  refine g_icmp_ne X (tgt := 12) dX10_text_6 (by decide) (fun c6 => ?_) (fun c6 => ?_)
  · have hf := ie c6 hf
    refine g_iconst X (v := 0) dX10_text_12 (by decide) ?_
    refine g_istore_n X (lv' := [(1, .int (0 : Int32)), (0, .ref (ad 63))]) dX10_text_13 rfl (by decide) rfl ?_
    refine g_pick [1, 0] (lv' := [(0, .ref (ad 63)), (1, .int (0 : Int32))]) rfl ?_
    exact w_X10_text_14 X hret 10000 (0 : Int32) m0 hf
  · have hf := it c6 hf
    refine g_bipush X (v := -4) dX10_text_9 (by decide) ?_
    obtain ⟨rfl, rfl⟩ := lf2 hf
    exact hret 11 _ dX10_text_11 rfl

def X10_force (p0 : Int32) (m0 : Mem) : Option (Int32 × Mem) :=
  bi (X10_in p0.toInt64 (0 : Int64) (((m0.1 63 3) - (1 : Int32)).toInt64) m0) fun r10 m10 =>
  if r10 = 0 then
    some ((-2 : Int32), m10)
  else
    some (m10.1 63 4, pI m10 63 4 p0)
abbrev rmX10_force : Room := { frames := 1, cells := 0, slots := 0, locals := 25 }

set_option maxRecDepth 100000 in
set_option maxHeartbeats 4000000 in
theorem c_X10_force {l : Launch} {G : GG} {b : Nat} {ad : Nat → Nat} {nt : Nat} {z : Nat → Nat} {p0 : Int32} {m0 : Mem} {r9 : Int32} {m9 : Mem} (hf : X10_force p0 m0 = some (r9, m9)) : MtI l yX10_force cX10_force 3 (some .int) rmX10_force G b (sg ad nt z) m0 [.ref (ad 63), .int p0] (pEI r9 (sg ad nt z) m9) := by
  refine mtI_of (by decide) (Nat.le_of_ble_eq_true rfl) .int rfl (fun Γ hG X hnm hr => ?_)
  have hret : ∀ (pc : Nat) (lv : List (Nat × Value)), decode cX10_force pc = .ok (.ireturn, 1) → narrow .int (.int r9) = .int r9 → Go Γ b (sg ad nt z) 0 0 pc lv [.int r9] m9 := fun pc lv d hn => hr pc lv _ _ _ d ⟨rfl, rfl, rfl⟩ hn
  show Go Γ b (sg ad nt z) 0 0 0 [(0, .ref (ad 63)), (1, .int p0)] [] m0
  refine g_iload_n X 1 dX10_force_0 rfl rfl ?_
  refine g_i2l X dX10_force_1 ?_
  refine g_lconst X (v := 0) dX10_force_2 (by decide) ?_
  refine g_aload_n X 0 dX10_force_3 rfl rfl ?_
  refine g_getI X 63 9 3 dX10_force_4 (sgN (by decide)) rfl (by decide) rfl iw_X10 (by decide) rfl q_fl_X10_70 ?_
  refine g_iconst X (v := 1) dX10_force_7 (by decide) ?_
  refine g_isub X dX10_force_8 ?_
  refine g_i2l X dX10_force_9 ?_
  obtain ⟨r10, m10, h10, hf⟩ := bi_i hf
  refine g_eSI X [.long p0.toInt64, .long (0 : Int64), .long (((m0.1 63 3) - (1 : Int32)).toInt64)] kS_X10_76 (c_X10_in h10) dX10_force_10 rfl rfl ⟨(Nat.le_of_ble_eq_true rfl), (Nat.le_of_ble_eq_true rfl)⟩ ⟨rfl, rfl⟩ ⟨(Nat.zero_le _), (Nat.zero_le _)⟩ (Nat.le_of_ble_eq_true rfl) ?_
  refine g_if_ne X (tgt := 19) dX10_force_13 (by decide) (fun c13 => ?_) (fun c13 => ?_)
  · have hf := ie c13 hf
    refine g_aload_n X 0 dX10_force_19 rfl rfl ?_
    refine g_getI X 63 9 4 dX10_force_20 (sgN (by decide)) rfl (by decide) rfl iw_X10 (by decide) rfl q_fl_X10_103 ?_
    refine g_istore_n X (lv' := [(2, .int (m10.1 63 4)), (0, .ref (ad 63)), (1, .int p0)]) dX10_force_23 rfl (by decide) rfl ?_
    refine g_aload_n X 1 dX10_force_24 rfl rfl ?_
    refine g_iload_n X 2 dX10_force_25 rfl rfl ?_
    refine g_putI X (tyf := tyX10) 63 9 4 dX10_force_26 (sgN (by decide)) rfl (by decide) rfl iw_X10 (by decide) rfl q_fl_X10_103 tyX10_ok nmX10 rfl rfl rfl ?_
    refine g_iload_n X 0 dX10_force_29 rfl rfl ?_
    obtain ⟨rfl, rfl⟩ := lf2 hf
    exact hret 30 _ dX10_force_30 rfl
  · have hf := it c13 hf
    refine g_bipush X (v := -2) dX10_force_16 (by decide) ?_
    obtain ⟨rfl, rfl⟩ := lf2 hf
    exact hret 18 _ dX10_force_18 rfl

def X10_isFree (p0 : Int32) (m0 : Mem) : Option (Int32 × Mem) :=
  if inn p0 6 then
  if (m0.1 68 p0.toNatClampNeg) = (5 : Int32) then
    some ((1 : Int32), m0)
  else
    if inn p0 6 then
    if (m0.1 68 p0.toNatClampNeg) = (4 : Int32) then
      if inn ((5 : Int32) * p0) 30 then
      if (m0.1 69 ((5 : Int32) * p0).toNatClampNeg) ≤ (6 : Int32) then
        some ((0 : Int32), m0)
      else
        some ((1 : Int32), m0)
      else none
    else
      some ((0 : Int32), m0)
    else none
  else none
abbrev rmX10_isFree : Room := { frames := 0, cells := 0, slots := 0, locals := 0 }

set_option maxRecDepth 100000 in
set_option maxHeartbeats 4000000 in
theorem c_X10_isFree {l : Launch} {G : GG} {b : Nat} {ad : Nat → Nat} {nt : Nat} {z : Nat → Nat} {p0 : Int32} {m0 : Mem} {r9 : Int32} {m9 : Mem} (hf : X10_isFree p0 m0 = some (r9, m9)) : MtI l yX10_isFree cX10_isFree 2 (some .boolean) rmX10_isFree G b (sg ad nt z) m0 [.ref (ad 63), .int p0] (pEI r9 (sg ad nt z) m9) := by
  refine mtI_of (by decide) (Nat.le_of_ble_eq_true rfl) .boolean rfl (fun Γ hG X hnm hr => ?_)
  have hret : ∀ (pc : Nat) (lv : List (Nat × Value)), decode cX10_isFree pc = .ok (.ireturn, 1) → narrow .boolean (.int r9) = .int r9 → Go Γ b (sg ad nt z) 0 0 pc lv [.int r9] m9 := fun pc lv d hn => hr pc lv _ _ _ d ⟨rfl, rfl, rfl⟩ hn
  show Go Γ b (sg ad nt z) 0 0 0 [(0, .ref (ad 63)), (1, .int p0)] [] m0
  refine g_aload_n X 0 dX10_isFree_0 rfl rfl ?_
  refine g_getr X (x := ad 68) 63 9 9 dX10_isFree_1 (sgN (by decide)) rfl (by decide) rfl iw_X10 (by decide) rfl q_fl_X10_26 rfl ?_
  refine g_iload_n X 1 dX10_isFree_4 rfl rfl ?_
  obtain ⟨h5, hf⟩ := grd hf
  refine g_iald X 68 (n := 6) dX10_isFree_5 (sgN (by decide)) rfl rfl h5 ?_
  refine g_iconst X (v := 5) dX10_isFree_6 (by decide) ?_
  refine g_icmp_eq X (tgt := 33) dX10_isFree_7 (by decide) (fun c7 => ?_) (fun c7 => ?_)
  · have hf := it c7 hf
    refine g_iconst X (v := 1) dX10_isFree_33 (by decide) ?_
    refine g_goto X (tgt := 38) dX10_isFree_34 (by decide) ?_
    obtain ⟨rfl, rfl⟩ := lf2 hf
    exact hret 38 _ dX10_isFree_38 rfl
  · have hf := ie c7 hf
    refine g_aload_n X 0 dX10_isFree_10 rfl rfl ?_
    refine g_getr X (x := ad 68) 63 9 9 dX10_isFree_11 (sgN (by decide)) rfl (by decide) rfl iw_X10 (by decide) rfl q_fl_X10_26 rfl ?_
    refine g_iload_n X 1 dX10_isFree_14 rfl rfl ?_
    obtain ⟨h15, hf⟩ := grd hf
    refine g_iald X 68 (n := 6) dX10_isFree_15 (sgN (by decide)) rfl rfl h15 ?_
    refine g_iconst X (v := 4) dX10_isFree_16 (by decide) ?_
    refine g_icmp_ne X (tgt := 37) dX10_isFree_17 (by decide) (fun c17 => ?_) (fun c17 => ?_)
    · have hf := ie c17 hf
      refine g_iconst X (v := 0) dX10_isFree_37 (by decide) ?_
      obtain ⟨rfl, rfl⟩ := lf2 hf
      exact hret 38 _ dX10_isFree_38 rfl
    · have hf := it c17 hf
      refine g_aload_n X 0 dX10_isFree_20 rfl rfl ?_
      refine g_getr X (x := ad 69) 63 9 10 dX10_isFree_21 (sgN (by decide)) rfl (by decide) rfl iw_X10 (by decide) rfl q_fl_X10_29 rfl ?_
      refine g_iconst X (v := 5) dX10_isFree_24 (by decide) ?_
      refine g_iload_n X 1 dX10_isFree_25 rfl rfl ?_
      refine g_imul X dX10_isFree_26 ?_
      obtain ⟨h27, hf⟩ := grd hf
      refine g_iald X 69 (n := 30) dX10_isFree_27 (sgN (by decide)) rfl rfl h27 ?_
      refine g_bipush X (v := 6) dX10_isFree_28 (by decide) ?_
      refine g_icmp_le X (tgt := 37) dX10_isFree_30 (by decide) (fun c30 => ?_) (fun c30 => ?_)
      · have hf := it c30 hf
        refine g_iconst X (v := 0) dX10_isFree_37 (by decide) ?_
        obtain ⟨rfl, rfl⟩ := lf2 hf
        exact hret 38 _ dX10_isFree_38 rfl
      · have hf := ie c30 hf
        refine g_iconst X (v := 1) dX10_isFree_33 (by decide) ?_
        refine g_goto X (tgt := 38) dX10_isFree_34 (by decide) ?_
        obtain ⟨rfl, rfl⟩ := lf2 hf
        exact hret 38 _ dX10_isFree_38 rfl

theorem kV_X10_364 : wcV RX10 364 RX10 yX10_isFree cX10_isFree 2 (some .boolean) 1 := ⟨q_ml_X10_364, q_im_yX10_isFree, q_se_yX10_isFree, q_in_X10, q_co_yX10_isFree, by decide +kernel⟩

def X10_payOf_115 (k47 : Int32 → Int32 → Int32 → Int32 → Int32 → Mem → Option (Int32 × Mem)) (v1 : Int32) (v2 : Int32) (v4 : Int32) (v5 : Int32) (v6 : Int32) (m0 : Mem) : Option (Int32 × Mem) :=
  k47 v1 v2 v4 v5 (v6 + (1 : Int32)) m0
def X10_payOf_107 (k47 : Int32 → Int32 → Int32 → Int32 → Int32 → Mem → Option (Int32 × Mem)) (v1 : Int32) (v2 : Int32) (v6 : Int32) (v7 : Int32) (m0 : Mem) : Option (Int32 × Mem) :=
  X10_payOf_115 k47 v1 v2 v6 v7 v6 m0
def X10_payOf_47 : Nat → Int32 → Int32 → Int32 → Int32 → Int32 → Mem → Option (Int32 × Mem)
  | 0, _, _, _, _, _, _ => none
  | n + 1, v1, v2, v4, v5, v6, m0 =>
    if (8 : Int32) ≤ v6 then
      some (v4, m0)
    else
      bi (X10_knows v1 m0) fun r56 m56 =>
      bi (X10_knows v2 m56) fun r61 m61 =>
      if ((r56 &&& (r61 ^^^ (-1 : Int32))) &&& ((1 : Int32) <<< (v6 &&& 31))) = 0 then
        X10_payOf_115 (X10_payOf_47 n) v1 v2 v4 v5 v6 m61
      else
        bi (X10_takes1 v2 v6 m61) fun r79 m79 =>
        if r79 = 0 then
          X10_payOf_115 (X10_payOf_47 n) v1 v2 v4 v5 v6 m79
        else
          bi (X10_worthOf v1 v6 m79) fun r89 m89 =>
          if v4 = (-1 : Int32) then
            X10_payOf_107 (X10_payOf_47 n) v1 v2 v6 r89 m89
          else
            if v5 ≤ r89 then
              X10_payOf_115 (X10_payOf_47 n) v1 v2 v4 v5 v6 m89
            else
              X10_payOf_107 (X10_payOf_47 n) v1 v2 v6 r89 m89
def X10_payOf (p0 : Int32) (p1 : Int32) (p2 : Int32) (m0 : Mem) : Option (Int32 × Mem) :=
  bi (X10_knows p1 m0) fun r2 m2 =>
  if ((r2 >>> (p2 &&& 31)) &&& (1 : Int32)) = 0 then
    some ((-1 : Int32), m2)
  else
    bi (X10_knows p0 m2) fun r14 m14 =>
    if ((r14 >>> (p2 &&& 31)) &&& (1 : Int32)) = (1 : Int32) then
      some ((-1 : Int32), m14)
    else
      bi (X10_isFree p1 m14) fun r29 m29 =>
      if r29 = 0 then
        X10_payOf_47 10000 p0 p1 (-1 : Int32) (0 : Int32) (0 : Int32) m29
      else
        some ((8 : Int32), m29)
abbrev rmX10_payOf : Room := { frames := 44, cells := 0, slots := 0, locals := 979 }
set_option maxRecDepth 100000 in
set_option maxHeartbeats 4000000 in
theorem w_X10_payOf_115 {Γ : Ga} {b : Nat} {ad : Nat → Nat} {nt : Nat} {z : Nat → Nat} {k47 : Int32 → Int32 → Int32 → Int32 → Int32 → Mem → Option (Int32 × Mem)} {r9 : Int32} {m9 : Mem} (X : Cx Γ b cX10_payOf 8 RX10 (some .int) rmX10_payOf) (hret : ∀ (pc : Nat) (lv : List (Nat × Value)), decode cX10_payOf pc = .ok (.ireturn, 1) → narrow .int (.int r9) = .int r9 → Go Γ b (sg ad nt z) 0 0 pc lv [.int r9] m9) (hk47 : ∀ (v1 : Int32) (v2 : Int32) (v4 : Int32) (v5 : Int32) (v6 : Int32) (m0 : Mem), k47 v1 v2 v4 v5 v6 m0 = some (r9, m9) → Go Γ b (sg ad nt z) 0 0 47 [(0, .ref (ad 63)), (1, .int v1), (2, .int v2), (4, .int v4), (5, .int v5), (6, .int v6)] [] m0) (v1 : Int32) (v2 : Int32) (v4 : Int32) (v5 : Int32) (v6 : Int32) (m0 : Mem) (hf : X10_payOf_115 k47 v1 v2 v4 v5 v6 m0 = some (r9, m9)) : Go Γ b (sg ad nt z) 0 0 115 [(0, .ref (ad 63)), (1, .int v1), (2, .int v2), (4, .int v4), (5, .int v5), (6, .int v6)] [] m0 := by
  refine g_iinc X 5 (v := v6 + (1 : Int32)) (lv' := [(6, .int (v6 + (1 : Int32))), (0, .ref (ad 63)), (1, .int v1), (2, .int v2), (4, .int v4), (5, .int v5)]) dX10_payOf_115 rfl rfl (by decide) rfl ?_
  refine g_goto X (tgt := 47) dX10_payOf_118 (by decide) ?_
  refine g_pick [1, 2, 3, 4, 5, 0] (lv' := [(0, .ref (ad 63)), (1, .int v1), (2, .int v2), (4, .int v4), (5, .int v5), (6, .int (v6 + (1 : Int32)))]) rfl ?_
  exact hk47 v1 v2 v4 v5 (v6 + (1 : Int32)) m0 hf
set_option maxRecDepth 100000 in
set_option maxHeartbeats 4000000 in
theorem w_X10_payOf_107 {Γ : Ga} {b : Nat} {ad : Nat → Nat} {nt : Nat} {z : Nat → Nat} {k47 : Int32 → Int32 → Int32 → Int32 → Int32 → Mem → Option (Int32 × Mem)} {r9 : Int32} {m9 : Mem} (X : Cx Γ b cX10_payOf 8 RX10 (some .int) rmX10_payOf) (hret : ∀ (pc : Nat) (lv : List (Nat × Value)), decode cX10_payOf pc = .ok (.ireturn, 1) → narrow .int (.int r9) = .int r9 → Go Γ b (sg ad nt z) 0 0 pc lv [.int r9] m9) (hk47 : ∀ (v1 : Int32) (v2 : Int32) (v4 : Int32) (v5 : Int32) (v6 : Int32) (m0 : Mem), k47 v1 v2 v4 v5 v6 m0 = some (r9, m9) → Go Γ b (sg ad nt z) 0 0 47 [(0, .ref (ad 63)), (1, .int v1), (2, .int v2), (4, .int v4), (5, .int v5), (6, .int v6)] [] m0) (v1 : Int32) (v2 : Int32) (v6 : Int32) (v7 : Int32) (m0 : Mem) (hf : X10_payOf_107 k47 v1 v2 v6 v7 m0 = some (r9, m9)) : Go Γ b (sg ad nt z) 0 0 107 [(0, .ref (ad 63)), (1, .int v1), (2, .int v2), (6, .int v6), (7, .int v7)] [] m0 := by
  refine g_iload X 3 dX10_payOf_107 rfl ?_
  refine g_istore X (lv' := [(4, .int v6), (0, .ref (ad 63)), (1, .int v1), (2, .int v2), (6, .int v6), (7, .int v7)]) dX10_payOf_109 (by decide) rfl ?_
  refine g_iload X 5 dX10_payOf_111 rfl ?_
  refine g_istore X (lv' := [(5, .int v7), (4, .int v6), (0, .ref (ad 63)), (1, .int v1), (2, .int v2), (6, .int v6), (7, .int v7)]) dX10_payOf_113 (by decide) rfl ?_
  refine g_pick [2, 3, 4, 1, 0, 5] (lv' := [(0, .ref (ad 63)), (1, .int v1), (2, .int v2), (4, .int v6), (5, .int v7), (6, .int v6)]) rfl ?_
  exact w_X10_payOf_115 X hret hk47 v1 v2 v6 v7 v6 m0 hf
set_option maxRecDepth 100000 in
set_option maxHeartbeats 4000000 in
theorem w_X10_payOf_47 {Γ : Ga} {b : Nat} {ad : Nat → Nat} {nt : Nat} {z : Nat → Nat} {r9 : Int32} {m9 : Mem} (X : Cx Γ b cX10_payOf 8 RX10 (some .int) rmX10_payOf) (hret : ∀ (pc : Nat) (lv : List (Nat × Value)), decode cX10_payOf pc = .ok (.ireturn, 1) → narrow .int (.int r9) = .int r9 → Go Γ b (sg ad nt z) 0 0 pc lv [.int r9] m9) : ∀ (n : Nat) (v1 : Int32) (v2 : Int32) (v4 : Int32) (v5 : Int32) (v6 : Int32) (m0 : Mem), X10_payOf_47 n v1 v2 v4 v5 v6 m0 = some (r9, m9) → Go Γ b (sg ad nt z) 0 0 47 [(0, .ref (ad 63)), (1, .int v1), (2, .int v2), (4, .int v4), (5, .int v5), (6, .int v6)] [] m0 := by
  intro n
  induction n with
  | zero =>
    intro v1 v2 v4 v5 v6 m0 hf
    cases hf
  | succ n ih =>
    intro v1 v2 v4 v5 v6 m0 hf
    refine g_iload X 5 dX10_payOf_47 rfl ?_
    refine g_bipush X (v := 8) dX10_payOf_49 (by decide) ?_
    refine g_icmp_ge X (tgt := 121) dX10_payOf_51 (by decide) (fun c51 => ?_) (fun c51 => ?_)
    · have hf := it c51 hf
      refine g_iload X 3 dX10_payOf_121 rfl ?_
      obtain ⟨rfl, rfl⟩ := lf2 hf
      exact hret 123 _ dX10_payOf_123 rfl
    · have hf := ie c51 hf
      refine g_aload_n X 0 dX10_payOf_54 rfl rfl ?_
      refine g_iload_n X 1 dX10_payOf_55 rfl rfl ?_
      obtain ⟨r56, m56, h56, hf⟩ := bi_i hf
      refine g_eVI X 63 9 [.int v1] kV_X10_351 (c_X10_knows h56) dX10_payOf_56 rfl rfl (sgN (by decide)) rfl (by decide) rfl rfl ⟨(Nat.le_of_ble_eq_true rfl), (Nat.le_of_ble_eq_true rfl)⟩ ⟨rfl, rfl⟩ ⟨(Nat.zero_le _), (Nat.zero_le _)⟩ (Nat.le_of_ble_eq_true rfl) ?_
      refine g_aload_n X 0 dX10_payOf_59 rfl rfl ?_
      refine g_iload_n X 2 dX10_payOf_60 rfl rfl ?_
      obtain ⟨r61, m61, h61, hf⟩ := bi_i hf
      refine g_eVI X 63 9 [.int v2] kV_X10_351 (c_X10_knows h61) dX10_payOf_61 rfl rfl (sgN (by decide)) rfl (by decide) rfl rfl ⟨(Nat.le_of_ble_eq_true rfl), (Nat.le_of_ble_eq_true rfl)⟩ ⟨rfl, rfl⟩ ⟨(Nat.zero_le _), (Nat.zero_le _)⟩ (Nat.le_of_ble_eq_true rfl) ?_
      refine g_iconst X (v := -1) dX10_payOf_64 (by decide) ?_
      refine g_ixor X dX10_payOf_65 ?_
      refine g_iand X dX10_payOf_66 ?_
      refine g_iconst X (v := 1) dX10_payOf_67 (by decide) ?_
      refine g_iload X 5 dX10_payOf_68 rfl ?_
      refine g_ishl X dX10_payOf_70 ?_
      refine g_iand X dX10_payOf_71 ?_
      refine g_if_eq X (tgt := 115) dX10_payOf_72 (by decide) (fun c72 => ?_) (fun c72 => ?_)
      · have hf := it c72 hf
        exact w_X10_payOf_115 X hret ih v1 v2 v4 v5 v6 m61 hf
      · have hf := ie c72 hf
        refine g_aload_n X 0 dX10_payOf_75 rfl rfl ?_
        refine g_iload_n X 2 dX10_payOf_76 rfl rfl ?_
        refine g_iload X 5 dX10_payOf_77 rfl ?_
        obtain ⟨r79, m79, h79, hf⟩ := bi_i hf
        refine g_eVI X 63 9 [.int v2, .int v6] kV_X10_137 (c_X10_takes1 h79) dX10_payOf_79 rfl rfl (sgN (by decide)) rfl (by decide) rfl rfl ⟨(Nat.le_of_ble_eq_true rfl), (Nat.le_of_ble_eq_true rfl)⟩ ⟨rfl, rfl⟩ ⟨(Nat.zero_le _), (Nat.zero_le _)⟩ (Nat.le_of_ble_eq_true rfl) ?_
        refine g_if_eq X (tgt := 115) dX10_payOf_82 (by decide) (fun c82 => ?_) (fun c82 => ?_)
        · have hf := it c82 hf
          exact w_X10_payOf_115 X hret ih v1 v2 v4 v5 v6 m79 hf
        · have hf := ie c82 hf
          refine g_aload_n X 0 dX10_payOf_85 rfl rfl ?_
          refine g_iload_n X 1 dX10_payOf_86 rfl rfl ?_
          refine g_iload X 5 dX10_payOf_87 rfl ?_
          obtain ⟨r89, m89, h89, hf⟩ := bi_i hf
          refine g_eVI X 63 9 [.int v1, .int v6] kV_X10_131 (c_X10_worthOf h89) dX10_payOf_89 rfl rfl (sgN (by decide)) rfl (by decide) rfl rfl ⟨(Nat.le_of_ble_eq_true rfl), (Nat.le_of_ble_eq_true rfl)⟩ ⟨rfl, rfl⟩ ⟨(Nat.zero_le _), (Nat.zero_le _)⟩ (Nat.le_of_ble_eq_true rfl) ?_
          refine g_istore X (lv' := [(7, .int r89), (0, .ref (ad 63)), (1, .int v1), (2, .int v2), (4, .int v4), (5, .int v5), (6, .int v6)]) dX10_payOf_92 (by decide) rfl ?_
          refine g_iload X 4 dX10_payOf_94 rfl ?_
          refine g_iconst X (v := -1) dX10_payOf_96 (by decide) ?_
          refine g_icmp_eq X (tgt := 107) dX10_payOf_97 (by decide) (fun c97 => ?_) (fun c97 => ?_)
          · have hf := it c97 hf
            refine g_pick [1, 2, 3, 6, 0] (lv' := [(0, .ref (ad 63)), (1, .int v1), (2, .int v2), (6, .int v6), (7, .int r89)]) rfl ?_
            exact w_X10_payOf_107 X hret ih v1 v2 v6 r89 m89 hf
          · have hf := ie c97 hf
            refine g_iload X 0 dX10_payOf_100 rfl ?_
            refine g_iload X 5 dX10_payOf_102 rfl ?_
            refine g_icmp_ge X (tgt := 115) dX10_payOf_104 (by decide) (fun c104 => ?_) (fun c104 => ?_)
            · have hf := it c104 hf
              refine g_pick [1, 2, 3, 4, 5, 6] (lv' := [(0, .ref (ad 63)), (1, .int v1), (2, .int v2), (4, .int v4), (5, .int v5), (6, .int v6)]) rfl ?_
              exact w_X10_payOf_115 X hret ih v1 v2 v4 v5 v6 m89 hf
            · have hf := ie c104 hf
              refine g_pick [1, 2, 3, 6, 0] (lv' := [(0, .ref (ad 63)), (1, .int v1), (2, .int v2), (6, .int v6), (7, .int r89)]) rfl ?_
              exact w_X10_payOf_107 X hret ih v1 v2 v6 r89 m89 hf
set_option maxRecDepth 100000 in
set_option maxHeartbeats 4000000 in
theorem c_X10_payOf {l : Launch} {G : GG} {b : Nat} {ad : Nat → Nat} {nt : Nat} {z : Nat → Nat} {p0 : Int32} {p1 : Int32} {p2 : Int32} {m0 : Mem} {r9 : Int32} {m9 : Mem} (hf : X10_payOf p0 p1 p2 m0 = some (r9, m9)) : MtI l yX10_payOf cX10_payOf 8 (some .int) rmX10_payOf G b (sg ad nt z) m0 [.ref (ad 63), .int p0, .int p1, .int p2] (pEI r9 (sg ad nt z) m9) := by
  refine mtI_of (by decide) (Nat.le_of_ble_eq_true rfl) .int rfl (fun Γ hG X hnm hr => ?_)
  have hret : ∀ (pc : Nat) (lv : List (Nat × Value)), decode cX10_payOf pc = .ok (.ireturn, 1) → narrow .int (.int r9) = .int r9 → Go Γ b (sg ad nt z) 0 0 pc lv [.int r9] m9 := fun pc lv d hn => hr pc lv _ _ _ d ⟨rfl, rfl, rfl⟩ hn
  show Go Γ b (sg ad nt z) 0 0 0 [(0, .ref (ad 63)), (1, .int p0), (2, .int p1), (3, .int p2)] [] m0
  refine g_aload_n X 0 dX10_payOf_0 rfl rfl ?_
  refine g_iload_n X 2 dX10_payOf_1 rfl rfl ?_
  obtain ⟨r2, m2, h2, hf⟩ := bi_i hf
  refine g_eVI X 63 9 [.int p1] kV_X10_351 (c_X10_knows h2) dX10_payOf_2 rfl rfl (sgN (by decide)) rfl (by decide) rfl rfl ⟨(Nat.le_of_ble_eq_true rfl), (Nat.le_of_ble_eq_true rfl)⟩ ⟨rfl, rfl⟩ ⟨(Nat.zero_le _), (Nat.zero_le _)⟩ (Nat.le_of_ble_eq_true rfl) ?_
  refine g_iload_n X 3 dX10_payOf_5 rfl rfl ?_
  refine g_ishr X dX10_payOf_6 ?_
  refine g_iconst X (v := 1) dX10_payOf_7 (by decide) ?_
  refine g_iand X dX10_payOf_8 ?_
  refine g_if_eq X (tgt := 25) dX10_payOf_9 (by decide) (fun c9 => ?_) (fun c9 => ?_)
  · have hf := it c9 hf
    refine g_iconst X (v := -1) dX10_payOf_25 (by decide) ?_
    obtain ⟨rfl, rfl⟩ := lf2 hf
    exact hret 26 _ dX10_payOf_26 rfl
  · have hf := ie c9 hf
    refine g_aload_n X 0 dX10_payOf_12 rfl rfl ?_
    refine g_iload_n X 1 dX10_payOf_13 rfl rfl ?_
    obtain ⟨r14, m14, h14, hf⟩ := bi_i hf
    refine g_eVI X 63 9 [.int p0] kV_X10_351 (c_X10_knows h14) dX10_payOf_14 rfl rfl (sgN (by decide)) rfl (by decide) rfl rfl ⟨(Nat.le_of_ble_eq_true rfl), (Nat.le_of_ble_eq_true rfl)⟩ ⟨rfl, rfl⟩ ⟨(Nat.zero_le _), (Nat.zero_le _)⟩ (Nat.le_of_ble_eq_true rfl) ?_
    refine g_iload_n X 3 dX10_payOf_17 rfl rfl ?_
    refine g_ishr X dX10_payOf_18 ?_
    refine g_iconst X (v := 1) dX10_payOf_19 (by decide) ?_
    refine g_iand X dX10_payOf_20 ?_
    refine g_iconst X (v := 1) dX10_payOf_21 (by decide) ?_
    refine g_icmp_ne X (tgt := 27) dX10_payOf_22 (by decide) (fun c22 => ?_) (fun c22 => ?_)
    · have hf := ie c22 hf
      refine g_aload_n X 0 dX10_payOf_27 rfl rfl ?_
      refine g_iload_n X 2 dX10_payOf_28 rfl rfl ?_
      obtain ⟨r29, m29, h29, hf⟩ := bi_i hf
      refine g_eVI X 63 9 [.int p1] kV_X10_364 (c_X10_isFree h29) dX10_payOf_29 rfl rfl (sgN (by decide)) rfl (by decide) rfl rfl ⟨(Nat.le_of_ble_eq_true rfl), (Nat.le_of_ble_eq_true rfl)⟩ ⟨rfl, rfl⟩ ⟨(Nat.zero_le _), (Nat.zero_le _)⟩ (Nat.le_of_ble_eq_true rfl) ?_
      refine g_if_eq X (tgt := 38) dX10_payOf_32 (by decide) (fun c32 => ?_) (fun c32 => ?_)
      · have hf := it c32 hf
        refine g_iconst X (v := -1) dX10_payOf_38 (by decide) ?_
        refine g_istore X (lv' := [(4, .int (-1 : Int32)), (0, .ref (ad 63)), (1, .int p0), (2, .int p1), (3, .int p2)]) dX10_payOf_39 (by decide) rfl ?_
        refine g_iconst X (v := 0) dX10_payOf_41 (by decide) ?_
        refine g_istore X (lv' := [(5, .int (0 : Int32)), (4, .int (-1 : Int32)), (0, .ref (ad 63)), (1, .int p0), (2, .int p1), (3, .int p2)]) dX10_payOf_42 (by decide) rfl ?_
        refine g_iconst X (v := 0) dX10_payOf_44 (by decide) ?_
        refine g_istore X (lv' := [(6, .int (0 : Int32)), (5, .int (0 : Int32)), (4, .int (-1 : Int32)), (0, .ref (ad 63)), (1, .int p0), (2, .int p1), (3, .int p2)]) dX10_payOf_45 (by decide) rfl ?_
        refine g_pick [3, 4, 5, 2, 1, 0] (lv' := [(0, .ref (ad 63)), (1, .int p0), (2, .int p1), (4, .int (-1 : Int32)), (5, .int (0 : Int32)), (6, .int (0 : Int32))]) rfl ?_
        exact w_X10_payOf_47 X hret 10000 p0 p1 (-1 : Int32) (0 : Int32) (0 : Int32) m29 hf
      · have hf := ie c32 hf
        refine g_bipush X (v := 8) dX10_payOf_35 (by decide) ?_
        obtain ⟨rfl, rfl⟩ := lf2 hf
        exact hret 37 _ dX10_payOf_37 rfl
    · have hf := it c22 hf
      refine g_iconst X (v := -1) dX10_payOf_25 (by decide) ?_
      obtain ⟨rfl, rfl⟩ := lf2 hf
      exact hret 26 _ dX10_payOf_26 rfl

def X10_spends (p0 : Int32) (p1 : Int32) (m0 : Mem) : Option (Mem) :=
  if inn (((5 : Int32) * p0) + (4 : Int32)) 30 then
  bi (X10_within ((m0.1 69 (((5 : Int32) * p0) + (4 : Int32)).toNatClampNeg) + p1) (0 : Int32) (99999 : Int32) m0) fun r25 m25 =>
  if inn (((5 : Int32) * p0) + (4 : Int32)) 30 then
  some (pI m25 69 (((5 : Int32) * p0) + (4 : Int32)).toNatClampNeg r25)
  else none
  else none
abbrev rmX10_spends : Room := { frames := 1, cells := 0, slots := 0, locals := 22 }

set_option maxRecDepth 100000 in
set_option maxHeartbeats 4000000 in
theorem c_X10_spends {l : Launch} {G : GG} {b : Nat} {ad : Nat → Nat} {nt : Nat} {z : Nat → Nat} {p0 : Int32} {p1 : Int32} {m0 : Mem} {m9 : Mem} (hf : X10_spends p0 p1 m0 = some m9) : MtV l yX10_spends cX10_spends 3 (none) rmX10_spends G b (sg ad nt z) m0 [.ref (ad 63), .int p0, .int p1] (pEV (sg ad nt z) m9) := by
  refine mtV_of (by decide) (Nat.le_of_ble_eq_true rfl) rfl (fun Γ hG X hnm hr => ?_)
  have hret : ∀ (pc : Nat) (lv : List (Nat × Value)), decode cX10_spends pc = .ok (.return_, 1) → Go Γ b (sg ad nt z) 0 0 pc lv [] m9 := fun pc lv d => hr pc lv _ _ d ⟨rfl, rfl⟩
  show Go Γ b (sg ad nt z) 0 0 0 [(0, .ref (ad 63)), (1, .int p0), (2, .int p1)] [] m0
  refine g_aload_n X 0 dX10_spends_0 rfl rfl ?_
  refine g_getr X (x := ad 69) 63 9 10 dX10_spends_1 (sgN (by decide)) rfl (by decide) rfl iw_X10 (by decide) rfl q_fl_X10_29 rfl ?_
  refine g_iconst X (v := 5) dX10_spends_4 (by decide) ?_
  refine g_iload_n X 1 dX10_spends_5 rfl rfl ?_
  refine g_imul X dX10_spends_6 ?_
  refine g_iconst X (v := 4) dX10_spends_7 (by decide) ?_
  refine g_iadd X dX10_spends_8 ?_
  refine g_aload_n X 0 dX10_spends_9 rfl rfl ?_
  refine g_getr X (x := ad 69) 63 9 10 dX10_spends_10 (sgN (by decide)) rfl (by decide) rfl iw_X10 (by decide) rfl q_fl_X10_29 rfl ?_
  refine g_iconst X (v := 5) dX10_spends_13 (by decide) ?_
  refine g_iload_n X 1 dX10_spends_14 rfl rfl ?_
  refine g_imul X dX10_spends_15 ?_
  refine g_iconst X (v := 4) dX10_spends_16 (by decide) ?_
  refine g_iadd X dX10_spends_17 ?_
  obtain ⟨h18, hf⟩ := grd hf
  refine g_iald X 69 (n := 30) dX10_spends_18 (sgN (by decide)) rfl rfl h18 ?_
  refine g_iload_n X 2 dX10_spends_19 rfl rfl ?_
  refine g_iadd X dX10_spends_20 ?_
  refine g_iconst X (v := 0) dX10_spends_21 (by decide) ?_
  refine g_ldc_w X dX10_spends_22 q_cn_X10_367 ?_
  obtain ⟨r25, m25, h25, hf⟩ := bi_i hf
  refine g_eSI X [.int ((m0.1 69 (((5 : Int32) * p0) + (4 : Int32)).toNatClampNeg) + p1), .int (0 : Int32), .int (99999 : Int32)] kS_X10_357 (c_X10_within h25) dX10_spends_25 rfl rfl ⟨(Nat.le_of_ble_eq_true rfl), (Nat.le_of_ble_eq_true rfl)⟩ ⟨rfl, rfl⟩ ⟨(Nat.zero_le _), (Nat.zero_le _)⟩ (Nat.le_of_ble_eq_true rfl) ?_
  obtain ⟨h28, hf⟩ := grd hf
  refine g_iast X 69 (n := 30) dX10_spends_28 (sgN (by decide)) rfl rfl h28 ?_
  obtain rfl := lf1 hf
  exact hret 29 _ dX10_spends_29

theorem kV_X10_368 : wcV RX10 368 RX10 yX10_spends cX10_spends 3 (none) 2 := ⟨q_ml_X10_368, q_im_yX10_spends, q_se_yX10_spends, q_in_X10, q_co_yX10_spends, by decide +kernel⟩

def X10_trades_26 (v1 : Int32) (v2 : Int32) (v3 : Int32) (v4 : Int32) (v5 : Int32) (s0 : Int32) (m0 : Mem) : Option (Mem) :=
  bv (X10_spends v2 v5 m0) fun m32 =>
  bv (X10_spends v1 s0 m32) fun m39 =>
  if inn (((5 : Int32) * v1) + (2 : Int32)) 30 then
  if inn (((5 : Int32) * v1) + (2 : Int32)) 30 then
  if inn (((5 : Int32) * v2) + (2 : Int32)) 30 then
  if v4 = (8 : Int32) then
    if inn (((5 : Int32) * v2) + (2 : Int32)) 30 then
    some (pI (pI m39 69 (((5 : Int32) * v1) + (2 : Int32)).toNatClampNeg ((m39.1 69 (((5 : Int32) * v1) + (2 : Int32)).toNatClampNeg) ||| ((1 : Int32) <<< (v3 &&& 31)))) 69 (((5 : Int32) * v2) + (2 : Int32)).toNatClampNeg (((pI m39 69 (((5 : Int32) * v1) + (2 : Int32)).toNatClampNeg ((m39.1 69 (((5 : Int32) * v1) + (2 : Int32)).toNatClampNeg) ||| ((1 : Int32) <<< (v3 &&& 31)))).1 69 (((5 : Int32) * v2) + (2 : Int32)).toNatClampNeg) ||| (0 : Int32)))
    else none
  else
    if inn (((5 : Int32) * v2) + (2 : Int32)) 30 then
    some (pI (pI m39 69 (((5 : Int32) * v1) + (2 : Int32)).toNatClampNeg ((m39.1 69 (((5 : Int32) * v1) + (2 : Int32)).toNatClampNeg) ||| ((1 : Int32) <<< (v3 &&& 31)))) 69 (((5 : Int32) * v2) + (2 : Int32)).toNatClampNeg (((pI m39 69 (((5 : Int32) * v1) + (2 : Int32)).toNatClampNeg ((m39.1 69 (((5 : Int32) * v1) + (2 : Int32)).toNatClampNeg) ||| ((1 : Int32) <<< (v3 &&& 31)))).1 69 (((5 : Int32) * v2) + (2 : Int32)).toNatClampNeg) ||| ((1 : Int32) <<< (v4 &&& 31))))
    else none
  else none
  else none
  else none
def X10_trades (p0 : Int32) (p1 : Int32) (p2 : Int32) (p3 : Int32) (m0 : Mem) : Option (Mem) :=
  bi (X10_timeOf p1 p2 m0) fun r3 m3 =>
  if p3 = (8 : Int32) then
    X10_trades_26 p0 p1 p2 p3 r3 (0 : Int32) m3
  else
    bi (X10_timeOf p0 p3 m3) fun r23 m23 =>
    X10_trades_26 p0 p1 p2 p3 r3 r23 m23
abbrev rmX10_trades : Room := { frames := 44, cells := 0, slots := 0, locals := 978 }
set_option maxRecDepth 100000 in
set_option maxHeartbeats 4000000 in
theorem w_X10_trades_26 {Γ : Ga} {b : Nat} {ad : Nat → Nat} {nt : Nat} {z : Nat → Nat} {m9 : Mem} (X : Cx Γ b cX10_trades 7 RX10 (none) rmX10_trades) (hret : ∀ (pc : Nat) (lv : List (Nat × Value)), decode cX10_trades pc = .ok (.return_, 1) → Go Γ b (sg ad nt z) 0 0 pc lv [] m9) (v1 : Int32) (v2 : Int32) (v3 : Int32) (v4 : Int32) (v5 : Int32) (s0 : Int32) (m0 : Mem) (hf : X10_trades_26 v1 v2 v3 v4 v5 s0 m0 = some m9) : Go Γ b (sg ad nt z) 0 0 26 [(0, .ref (ad 63)), (1, .int v1), (2, .int v2), (3, .int v3), (4, .int v4), (5, .int v5)] [.int s0] m0 := by
  refine g_istore X (lv' := [(6, .int s0), (0, .ref (ad 63)), (1, .int v1), (2, .int v2), (3, .int v3), (4, .int v4), (5, .int v5)]) dX10_trades_26 (by decide) rfl ?_
  refine g_aload_n X 1 dX10_trades_28 rfl rfl ?_
  refine g_iload_n X 3 dX10_trades_29 rfl rfl ?_
  refine g_iload X 6 dX10_trades_30 rfl ?_
  obtain ⟨m32, h32, hf⟩ := bv_i hf
  refine g_eVV X 63 9 [.int v2, .int v5] kV_X10_368 (c_X10_spends h32) dX10_trades_32 rfl rfl (sgN (by decide)) rfl (by decide) rfl rfl ⟨(Nat.le_of_ble_eq_true rfl), (Nat.le_of_ble_eq_true rfl)⟩ ⟨rfl, rfl⟩ ⟨(Nat.zero_le _), (Nat.zero_le _)⟩ (Nat.le_of_ble_eq_true rfl) ?_
  refine g_aload_n X 1 dX10_trades_35 rfl rfl ?_
  refine g_iload_n X 2 dX10_trades_36 rfl rfl ?_
  refine g_iload X 0 dX10_trades_37 rfl ?_
  obtain ⟨m39, h39, hf⟩ := bv_i hf
  refine g_eVV X 63 9 [.int v1, .int s0] kV_X10_368 (c_X10_spends h39) dX10_trades_39 rfl rfl (sgN (by decide)) rfl (by decide) rfl rfl ⟨(Nat.le_of_ble_eq_true rfl), (Nat.le_of_ble_eq_true rfl)⟩ ⟨rfl, rfl⟩ ⟨(Nat.zero_le _), (Nat.zero_le _)⟩ (Nat.le_of_ble_eq_true rfl) ?_
  refine g_aload_n X 1 dX10_trades_42 rfl rfl ?_
  refine g_getr X (x := ad 69) 63 9 10 dX10_trades_43 (sgN (by decide)) rfl (by decide) rfl iw_X10 (by decide) rfl q_fl_X10_29 rfl ?_
  refine g_iconst X (v := 5) dX10_trades_46 (by decide) ?_
  refine g_iload_n X 2 dX10_trades_47 rfl rfl ?_
  refine g_imul X dX10_trades_48 ?_
  refine g_iconst X (v := 2) dX10_trades_49 (by decide) ?_
  refine g_iadd X dX10_trades_50 ?_
  refine g_dup2 X dX10_trades_51 rfl rfl ?_
  obtain ⟨h52, hf⟩ := grd hf
  refine g_iald X 69 (n := 30) dX10_trades_52 (sgN (by decide)) rfl rfl h52 ?_
  refine g_iconst X (v := 1) dX10_trades_53 (by decide) ?_
  refine g_iload_n X 4 dX10_trades_54 rfl rfl ?_
  refine g_ishl X dX10_trades_55 ?_
  refine g_ior X dX10_trades_56 ?_
  obtain ⟨h57, hf⟩ := grd hf
  refine g_iast X 69 (n := 30) dX10_trades_57 (sgN (by decide)) rfl rfl h57 ?_
  refine g_aload_n X 1 dX10_trades_58 rfl rfl ?_
  refine g_getr X (x := ad 69) 63 9 10 dX10_trades_59 (sgN (by decide)) rfl (by decide) rfl iw_X10 (by decide) rfl q_fl_X10_29 rfl ?_
  refine g_iconst X (v := 5) dX10_trades_62 (by decide) ?_
  refine g_iload_n X 3 dX10_trades_63 rfl rfl ?_
  refine g_imul X dX10_trades_64 ?_
  refine g_iconst X (v := 2) dX10_trades_65 (by decide) ?_
  refine g_iadd X dX10_trades_66 ?_
  refine g_dup2 X dX10_trades_67 rfl rfl ?_
  obtain ⟨h68, hf⟩ := grd hf
  refine g_iald X 69 (n := 30) dX10_trades_68 (sgN (by decide)) rfl rfl h68 ?_
  refine g_iload X 5 dX10_trades_69 rfl ?_
  refine g_bipush X (v := 8) dX10_trades_71 (by decide) ?_
  refine g_icmp_ne X (tgt := 80) dX10_trades_73 (by decide) (fun c73 => ?_) (fun c73 => ?_)
  · have hf := ie c73 hf
    refine g_iconst X (v := 1) dX10_trades_80 (by decide) ?_
    refine g_iload X 5 dX10_trades_81 rfl ?_
    refine g_ishl X dX10_trades_83 ?_
    refine g_ior X dX10_trades_84 ?_
    obtain ⟨h85, hf⟩ := grd hf
    refine g_iast X 69 (n := 30) dX10_trades_85 (sgN (by decide)) rfl rfl h85 ?_
    obtain rfl := lf1 hf
    exact hret 86 _ dX10_trades_86
  · have hf := it c73 hf
    refine g_iconst X (v := 0) dX10_trades_76 (by decide) ?_
    refine g_goto X (tgt := 84) dX10_trades_77 (by decide) ?_
    refine g_ior X dX10_trades_84 ?_
    obtain ⟨h85, hf⟩ := grd hf
    refine g_iast X 69 (n := 30) dX10_trades_85 (sgN (by decide)) rfl rfl h85 ?_
    obtain rfl := lf1 hf
    exact hret 86 _ dX10_trades_86
set_option maxRecDepth 100000 in
set_option maxHeartbeats 4000000 in
theorem c_X10_trades {l : Launch} {G : GG} {b : Nat} {ad : Nat → Nat} {nt : Nat} {z : Nat → Nat} {p0 : Int32} {p1 : Int32} {p2 : Int32} {p3 : Int32} {m0 : Mem} {m9 : Mem} (hf : X10_trades p0 p1 p2 p3 m0 = some m9) : MtV l yX10_trades cX10_trades 7 (none) rmX10_trades G b (sg ad nt z) m0 [.ref (ad 63), .int p0, .int p1, .int p2, .int p3] (pEV (sg ad nt z) m9) := by
  refine mtV_of (by decide) (Nat.le_of_ble_eq_true rfl) rfl (fun Γ hG X hnm hr => ?_)
  have hret : ∀ (pc : Nat) (lv : List (Nat × Value)), decode cX10_trades pc = .ok (.return_, 1) → Go Γ b (sg ad nt z) 0 0 pc lv [] m9 := fun pc lv d => hr pc lv _ _ d ⟨rfl, rfl⟩
  show Go Γ b (sg ad nt z) 0 0 0 [(0, .ref (ad 63)), (1, .int p0), (2, .int p1), (3, .int p2), (4, .int p3)] [] m0
  refine g_aload_n X 0 dX10_trades_0 rfl rfl ?_
  refine g_iload_n X 2 dX10_trades_1 rfl rfl ?_
  refine g_iload_n X 3 dX10_trades_2 rfl rfl ?_
  obtain ⟨r3, m3, h3, hf⟩ := bi_i hf
  refine g_eVI X 63 9 [.int p1, .int p2] kV_X10_134 (c_X10_timeOf h3) dX10_trades_3 rfl rfl (sgN (by decide)) rfl (by decide) rfl rfl ⟨(Nat.le_of_ble_eq_true rfl), (Nat.le_of_ble_eq_true rfl)⟩ ⟨rfl, rfl⟩ ⟨(Nat.zero_le _), (Nat.zero_le _)⟩ (Nat.le_of_ble_eq_true rfl) ?_
  refine g_istore X (lv' := [(5, .int r3), (0, .ref (ad 63)), (1, .int p0), (2, .int p1), (3, .int p2), (4, .int p3)]) dX10_trades_6 (by decide) rfl ?_
  refine g_iload X 5 dX10_trades_8 rfl ?_
  refine g_bipush X (v := 8) dX10_trades_10 (by decide) ?_
  refine g_icmp_ne X (tgt := 19) dX10_trades_12 (by decide) (fun c12 => ?_) (fun c12 => ?_)
  · have hf := ie c12 hf
    refine g_aload_n X 1 dX10_trades_19 rfl rfl ?_
    refine g_iload_n X 2 dX10_trades_20 rfl rfl ?_
    refine g_iload X 5 dX10_trades_21 rfl ?_
    obtain ⟨r23, m23, h23, hf⟩ := bi_i hf
    refine g_eVI X 63 9 [.int p0, .int p3] kV_X10_134 (c_X10_timeOf h23) dX10_trades_23 rfl rfl (sgN (by decide)) rfl (by decide) rfl rfl ⟨(Nat.le_of_ble_eq_true rfl), (Nat.le_of_ble_eq_true rfl)⟩ ⟨rfl, rfl⟩ ⟨(Nat.zero_le _), (Nat.zero_le _)⟩ (Nat.le_of_ble_eq_true rfl) ?_
    refine g_pick [1, 2, 3, 4, 5, 0] (lv' := [(0, .ref (ad 63)), (1, .int p0), (2, .int p1), (3, .int p2), (4, .int p3), (5, .int r3)]) rfl ?_
    exact w_X10_trades_26 X hret p0 p1 p2 p3 r3 r23 m23 hf
  · have hf := it c12 hf
    refine g_iconst X (v := 0) dX10_trades_15 (by decide) ?_
    refine g_goto X (tgt := 26) dX10_trades_16 (by decide) ?_
    refine g_pick [1, 2, 3, 4, 5, 0] (lv' := [(0, .ref (ad 63)), (1, .int p0), (2, .int p1), (3, .int p2), (4, .int p3), (5, .int r3)]) rfl ?_
    exact w_X10_trades_26 X hret p0 p1 p2 p3 r3 (0 : Int32) m3 hf
