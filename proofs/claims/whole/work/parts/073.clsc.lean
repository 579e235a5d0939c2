def X9_isPlace (p0 : Int32) (m0 : Mem) : Option (Int32 × Mem) :=
  if p0 < 0 then
    some ((0 : Int32), m0)
  else
    if (8 : Int32) ≤ p0 then
      some ((0 : Int32), m0)
    else
      some ((1 : Int32), m0)
abbrev rmX9_isPlace : Room := { frames := 0, cells := 0, slots := 0, locals := 0 }

set_option maxRecDepth 100000 in
set_option maxHeartbeats 4000000 in
theorem c_X9_isPlace {l : Launch} {G : GG} {b : Nat} {ad : Nat → Nat} {nt : Nat} {z : Nat → Nat} {p0 : Int32} {m0 : Mem} {r9 : Int32} {m9 : Mem} (hf : X9_isPlace p0 m0 = some (r9, m9)) : MtI l yX9_isPlace cX9_isPlace 1 (some .boolean) rmX9_isPlace G b (sg ad nt z) m0 [.int p0] (pEI r9 (sg ad nt z) m9) := by
  refine mtI_of (by decide) (Nat.le_of_ble_eq_true rfl) .boolean rfl (fun Γ hG X hnm hr => ?_)
  have hret : ∀ (pc : Nat) (lv : List (Nat × Value)), decode cX9_isPlace pc = .ok (.ireturn, 1) → narrow .boolean (.int r9) = .int r9 → Go Γ b (sg ad nt z) 0 0 pc lv [.int r9] m9 := fun pc lv d hn => hr pc lv _ _ _ d ⟨rfl, rfl, rfl⟩ hn
  show Go Γ b (sg ad nt z) 0 0 0 [(0, .int p0)] [] m0
  refine g_iload_n X 0 dX9_isPlace_0 rfl rfl ?_
  refine g_if_lt X (tgt := 14) dX9_isPlace_1 (by decide) (fun c1 => ?_) (fun c1 => ?_)
  · have hf := it c1 hf
    refine g_iconst X (v := 0) dX9_isPlace_14 (by decide) ?_
    obtain ⟨rfl, rfl⟩ := lf2 hf
    exact hret 15 _ dX9_isPlace_15 rfl
  · have hf := ie c1 hf
    refine g_iload_n X 0 dX9_isPlace_4 rfl rfl ?_
    refine g_bipush X (v := 8) dX9_isPlace_5 (by decide) ?_
    refine g_icmp_ge X (tgt := 14) dX9_isPlace_7 (by decide) (fun c7 => ?_) (fun c7 => ?_)
    · have hf := it c7 hf
      refine g_iconst X (v := 0) dX9_isPlace_14 (by decide) ?_
      obtain ⟨rfl, rfl⟩ := lf2 hf
      exact hret 15 _ dX9_isPlace_15 rfl
    · have hf := ie c7 hf
      refine g_iconst X (v := 1) dX9_isPlace_10 (by decide) ?_
      refine g_goto X (tgt := 15) dX9_isPlace_11 (by decide) ?_
      obtain ⟨rfl, rfl⟩ := lf2 hf
      exact hret 15 _ dX9_isPlace_15 rfl

theorem kS_X9_98 : wcS RX9 98 yX9_isPlace cX9_isPlace 1 (some .boolean) 1 := ⟨q_ml_X9_98, q_st_yX9_isPlace, q_in_X9, q_co_yX9_isPlace, by decide +kernel⟩

theorem kV_X9_101 : wcV RX9 101 RX4 yX4_lay cX4_lay 5 (some .int) 3 := ⟨q_ml_X9_101, q_im_yX4_lay, q_se_yX4_lay, q_in_X4, q_co_yX4_lay, by decide +kernel⟩

def X9_road (p0 : Int32) (p1 : Int32) (p2 : Int32) (m0 : Mem) : Option (Int32 × Mem) :=
  bi (X9_isPlace p0 m0) fun r1 m1 =>
  if r1 = 0 then
    some ((-2 : Int32), m1)
  else
    bi (X9_isPlace p1 m1) fun r8 m8 =>
    if r8 = 0 then
      some ((-2 : Int32), m8)
    else
      if p0 = p1 then
        some ((-2 : Int32), m8)
      else
        if p2 < 0 then
          some ((-2 : Int32), m8)
        else
          if p2 ≤ (99 : Int32) then
            bi (X4_lay p0 p1 p2 m8) fun r42 m42 =>
            some (r42, m42)
          else
            some ((-2 : Int32), m8)
abbrev rmX9_road : Room := { frames := 1, cells := 0, slots := 0, locals := 24 }

set_option maxRecDepth 100000 in
set_option maxHeartbeats 4000000 in
theorem c_X9_road {l : Launch} {G : GG} {b : Nat} {ad : Nat → Nat} {nt : Nat} {z : Nat → Nat} {p0 : Int32} {p1 : Int32} {p2 : Int32} {m0 : Mem} {r9 : Int32} {m9 : Mem} (hf : X9_road p0 p1 p2 m0 = some (r9, m9)) : MtI l yX9_road cX9_road 4 (some .int) rmX9_road G b (sg ad nt z) m0 [.ref (ad 0), .int p0, .int p1, .int p2] (pEI r9 (sg ad nt z) m9) := by
  refine mtI_of (by decide) (Nat.le_of_ble_eq_true rfl) .int rfl (fun Γ hG X hnm hr => ?_)
  have hret : ∀ (pc : Nat) (lv : List (Nat × Value)), decode cX9_road pc = .ok (.ireturn, 1) → narrow .int (.int r9) = .int r9 → Go Γ b (sg ad nt z) 0 0 pc lv [.int r9] m9 := fun pc lv d hn => hr pc lv _ _ _ d ⟨rfl, rfl, rfl⟩ hn
  show Go Γ b (sg ad nt z) 0 0 0 [(0, .ref (ad 0)), (1, .int p0), (2, .int p1), (3, .int p2)] [] m0
  refine g_iload_n X 1 dX9_road_0 rfl rfl ?_
  obtain ⟨r1, m1, h1, hf⟩ := bi_i hf
  refine g_eSI X [.int p0] kS_X9_98 (c_X9_isPlace h1) dX9_road_1 rfl rfl ⟨(Nat.le_of_ble_eq_true rfl), (Nat.le_of_ble_eq_true rfl)⟩ ⟨rfl, rfl⟩ ⟨(Nat.zero_le _), (Nat.zero_le _)⟩ (Nat.le_of_ble_eq_true rfl) ?_
  refine g_if_eq X (tgt := 19) dX9_road_4 (by decide) (fun c4 => ?_) (fun c4 => ?_)
  · have hf := it c4 hf
    refine g_bipush X (v := -2) dX9_road_19 (by decide) ?_
    obtain ⟨rfl, rfl⟩ := lf2 hf
    exact hret 21 _ dX9_road_21 rfl
  · have hf := ie c4 hf
    refine g_iload_n X 2 dX9_road_7 rfl rfl ?_
    obtain ⟨r8, m8, h8, hf⟩ := bi_i hf
    refine g_eSI X [.int p1] kS_X9_98 (c_X9_isPlace h8) dX9_road_8 rfl rfl ⟨(Nat.le_of_ble_eq_true rfl), (Nat.le_of_ble_eq_true rfl)⟩ ⟨rfl, rfl⟩ ⟨(Nat.zero_le _), (Nat.zero_le _)⟩ (Nat.le_of_ble_eq_true rfl) ?_
    refine g_if_eq X (tgt := 19) dX9_road_11 (by decide) (fun c11 => ?_) (fun c11 => ?_)
    · have hf := it c11 hf
      refine g_bipush X (v := -2) dX9_road_19 (by decide) ?_
      obtain ⟨rfl, rfl⟩ := lf2 hf
      exact hret 21 _ dX9_road_21 rfl
    · have hf := ie c11 hf
      refine g_iload_n X 1 dX9_road_14 rfl rfl ?_
      refine g_iload_n X 2 dX9_road_15 rfl rfl ?_
      refine g_icmp_ne X (tgt := 22) dX9_road_16 (by decide) (fun c16 => ?_) (fun c16 => ?_)
      · have hf := ie c16 hf
        refine g_iload_n X 3 dX9_road_22 rfl rfl ?_
        refine g_if_lt X (tgt := 32) dX9_road_23 (by decide) (fun c23 => ?_) (fun c23 => ?_)
        · have hf := it c23 hf
          refine g_bipush X (v := -2) dX9_road_32 (by decide) ?_
          obtain ⟨rfl, rfl⟩ := lf2 hf
          exact hret 34 _ dX9_road_34 rfl
        · have hf := ie c23 hf
          refine g_iload_n X 3 dX9_road_26 rfl rfl ?_
          refine g_bipush X (v := 99) dX9_road_27 (by decide) ?_
          refine g_icmp_le X (tgt := 35) dX9_road_29 (by decide) (fun c29 => ?_) (fun c29 => ?_)
          · have hf := it c29 hf
            refine g_aload_n X 0 dX9_road_35 rfl rfl ?_
            refine g_getr X (x := ad 1) 0 8 0 dX9_road_36 (sgN (by decide)) rfl (by decide) rfl iw_X9 (by decide) rfl q_fl_X9_10 rfl ?_
            refine g_iload_n X 1 dX9_road_39 rfl rfl ?_
            refine g_iload_n X 2 dX9_road_40 rfl rfl ?_
            refine g_iload_n X 3 dX9_road_41 rfl rfl ?_
            obtain ⟨r42, m42, h42, hf⟩ := bi_i hf
            refine g_eVI X 1 3 [.int p0, .int p1, .int p2] kV_X9_101 (c_X4_lay h42) dX9_road_42 rfl rfl (sgN (by decide)) rfl (by decide) rfl rfl ⟨(Nat.le_of_ble_eq_true rfl), (Nat.le_of_ble_eq_true rfl)⟩ ⟨rfl, rfl⟩ ⟨(Nat.zero_le _), (Nat.zero_le _)⟩ (Nat.le_of_ble_eq_true rfl) ?_
            obtain ⟨rfl, rfl⟩ := lf2 hf
            exact hret 45 _ dX9_road_45 rfl
          · have hf := ie c29 hf
            refine g_bipush X (v := -2) dX9_road_32 (by decide) ?_
            obtain ⟨rfl, rfl⟩ := lf2 hf
            exact hret 34 _ dX9_road_34 rfl
      · have hf := it c16 hf
        refine g_bipush X (v := -2) dX9_road_19 (by decide) ?_
        obtain ⟨rfl, rfl⟩ := lf2 hf
        exact hret 21 _ dX9_road_21 rfl

theorem kS_X9_105 : wcS RX9 105 yX1_isKind cX1_isKind 1 (some .boolean) 1 := ⟨q_ml_X9_105, q_st_yX1_isKind, q_in_X1, q_co_yX1_isKind, by decide +kernel⟩

theorem kV_X9_110 : wcV RX9 110 RX0 yX0_add cX0_add 4 (some .int) 3 := ⟨q_ml_X9_110, q_im_yX0_add, q_se_yX0_add, q_in_X0, q_co_yX0_add, by decide +kernel⟩

def X9_person (p0 : Int32) (p1 : Int32) (p2 : Int32) (m0 : Mem) : Option (Int32 × Mem) :=
  bi (X1_isKind p0 m0) fun r1 m1 =>
  if r1 = 0 then
    some ((-2 : Int32), m1)
  else
    if p1 < 0 then
      some ((-2 : Int32), m1)
    else
      if p1 ≤ (9 : Int32) then
        if p2 < 0 then
          some ((-2 : Int32), m1)
        else
          if p2 ≤ (255 : Int32) then
            bi (X0_add 5 p0 p1 p2 m1) fun r41 m41 =>
            some (r41, m41)
          else
            some ((-2 : Int32), m1)
      else
        some ((-2 : Int32), m1)
abbrev rmX9_person : Room := { frames := 1, cells := 0, slots := 0, locals := 23 }

set_option maxRecDepth 100000 in
set_option maxHeartbeats 4000000 in
theorem c_X9_person {l : Launch} {G : GG} {b : Nat} {ad : Nat → Nat} {nt : Nat} {z : Nat → Nat} {p0 : Int32} {p1 : Int32} {p2 : Int32} {m0 : Mem} {r9 : Int32} {m9 : Mem} (hf : X9_person p0 p1 p2 m0 = some (r9, m9)) : MtI l yX9_person cX9_person 4 (some .int) rmX9_person G b (sg ad nt z) m0 [.ref (ad 0), .int p0, .int p1, .int p2] (pEI r9 (sg ad nt z) m9) := by
  refine mtI_of (by decide) (Nat.le_of_ble_eq_true rfl) .int rfl (fun Γ hG X hnm hr => ?_)
  have hret : ∀ (pc : Nat) (lv : List (Nat × Value)), decode cX9_person pc = .ok (.ireturn, 1) → narrow .int (.int r9) = .int r9 → Go Γ b (sg ad nt z) 0 0 pc lv [.int r9] m9 := fun pc lv d hn => hr pc lv _ _ _ d ⟨rfl, rfl, rfl⟩ hn
  show Go Γ b (sg ad nt z) 0 0 0 [(0, .ref (ad 0)), (1, .int p0), (2, .int p1), (3, .int p2)] [] m0
  refine g_iload_n X 1 dX9_person_0 rfl rfl ?_
  obtain ⟨r1, m1, h1, hf⟩ := bi_i hf
  refine g_eSI X [.int p0] kS_X9_105 (c_X1_isKind h1) dX9_person_1 rfl rfl ⟨(Nat.le_of_ble_eq_true rfl), (Nat.le_of_ble_eq_true rfl)⟩ ⟨rfl, rfl⟩ ⟨(Nat.zero_le _), (Nat.zero_le _)⟩ (Nat.le_of_ble_eq_true rfl) ?_
  refine g_if_eq X (tgt := 17) dX9_person_4 (by decide) (fun c4 => ?_) (fun c4 => ?_)
  · have hf := it c4 hf
    refine g_bipush X (v := -2) dX9_person_17 (by decide) ?_
    obtain ⟨rfl, rfl⟩ := lf2 hf
    exact hret 19 _ dX9_person_19 rfl
  · have hf := ie c4 hf
    refine g_iload_n X 2 dX9_person_7 rfl rfl ?_
    refine g_if_lt X (tgt := 17) dX9_person_8 (by decide) (fun c8 => ?_) (fun c8 => ?_)
    · have hf := it c8 hf
      refine g_bipush X (v := -2) dX9_person_17 (by decide) ?_
      obtain ⟨rfl, rfl⟩ := lf2 hf
      exact hret 19 _ dX9_person_19 rfl
    · have hf := ie c8 hf
      refine g_iload_n X 2 dX9_person_11 rfl rfl ?_
      refine g_bipush X (v := 9) dX9_person_12 (by decide) ?_
      refine g_icmp_le X (tgt := 20) dX9_person_14 (by decide) (fun c14 => ?_) (fun c14 => ?_)
      · have hf := it c14 hf
        refine g_iload_n X 3 dX9_person_20 rfl rfl ?_
        refine g_if_lt X (tgt := 31) dX9_person_21 (by decide) (fun c21 => ?_) (fun c21 => ?_)
        · have hf := it c21 hf
          refine g_bipush X (v := -2) dX9_person_31 (by decide) ?_
          obtain ⟨rfl, rfl⟩ := lf2 hf
          exact hret 33 _ dX9_person_33 rfl
        · have hf := ie c21 hf
          refine g_iload_n X 3 dX9_person_24 rfl rfl ?_
          refine g_sipush X (v := 255) dX9_person_25 (by decide) ?_
          refine g_icmp_le X (tgt := 34) dX9_person_28 (by decide) (fun c28 => ?_) (fun c28 => ?_)
          · have hf := it c28 hf
            refine g_aload_n X 0 dX9_person_34 rfl rfl ?_
            refine g_getr X (x := ad 5) 0 8 1 dX9_person_35 (sgN (by decide)) rfl (by decide) rfl iw_X9 (by decide) rfl q_fl_X9_19 rfl ?_
            refine g_iload_n X 1 dX9_person_38 rfl rfl ?_
            refine g_iload_n X 2 dX9_person_39 rfl rfl ?_
            refine g_iload_n X 3 dX9_person_40 rfl rfl ?_
            obtain ⟨r41, m41, h41, hf⟩ := bi_i hf
            refine g_eVI X 5 0 [.int p0, .int p1, .int p2] kV_X9_110 (c_X0_add (by unfold isF; decide) h41) dX9_person_41 rfl rfl (sgN (by decide)) rfl (by decide) rfl rfl ⟨(Nat.le_of_ble_eq_true rfl), (Nat.le_of_ble_eq_true rfl)⟩ ⟨rfl, rfl⟩ ⟨(Nat.zero_le _), (Nat.zero_le _)⟩ (Nat.le_of_ble_eq_true rfl) ?_
            obtain ⟨rfl, rfl⟩ := lf2 hf
            exact hret 44 _ dX9_person_44 rfl
          · have hf := ie c28 hf
            refine g_bipush X (v := -2) dX9_person_31 (by decide) ?_
            obtain ⟨rfl, rfl⟩ := lf2 hf
            exact hret 33 _ dX9_person_33 rfl
      · have hf := ie c14 hf
        refine g_bipush X (v := -2) dX9_person_17 (by decide) ?_
        obtain ⟨rfl, rfl⟩ := lf2 hf
        exact hret 19 _ dX9_person_19 rfl

theorem kV_X9_129 : wcV RX9 129 RX2 yX2_worth cX2_worth 4 (some .int) 3 := ⟨q_ml_X9_129, q_im_yX2_worth, q_se_yX2_worth, q_in_X2, q_co_yX2_worth, by decide +kernel⟩

theorem kV_X9_133 : wcV RX9 133 RX2 yX2_time cX2_time 4 (some .int) 3 := ⟨q_ml_X9_133, q_im_yX2_time, q_se_yX2_time, q_in_X2, q_co_yX2_time, by decide +kernel⟩

theorem kV_X9_136 : wcV RX9 136 RX2 yX2_takes cX2_takes 4 (some .boolean) 3 := ⟨q_ml_X9_136, q_im_yX2_takes, q_se_yX2_takes, q_in_X2, q_co_yX2_takes, by decide +kernel⟩

def X9_toldOfWay (nt : Nat) (z : Nat → Nat) (p0 : Int32) (p1 : Int32) (p2 : Int32) (m0 : Mem) : Option (Int32 × Mem) :=
  bi (X9_isPlace p2 m0) fun r1 m1 =>
  if r1 = 0 then
    some ((-2 : Int32), m1)
  else
    if p1 = (1 : Int32) then
      bi (X2_worth nt z 5 p0 p2 m1) fun r46 m46 =>
      some (r46, m46)
    else
      if p1 = (2 : Int32) then
        bi (X2_time nt z 5 p0 p2 m1) fun r60 m60 =>
        some (r60, m60)
      else
        if p1 = (3 : Int32) then
          bi (X2_takes nt z 5 p0 p2 m1) fun r74 m74 =>
          if r74 = 0 then
            some ((0 : Int32), m74)
          else
            some ((1 : Int32), m74)
        else
          some ((-2 : Int32), m1)
abbrev rmX9_toldOfWay : Room := { frames := 4, cells := 0, slots := 0, locals := 113 }

set_option maxRecDepth 100000 in
set_option maxHeartbeats 4000000 in
theorem c_X9_toldOfWay {l : Launch} {G : GG} {b : Nat} {ad : Nat → Nat} {nt : Nat} {z : Nat → Nat} {p0 : Int32} {p1 : Int32} {p2 : Int32} {m0 : Mem} {r9 : Int32} {m9 : Mem} (hf : X9_toldOfWay nt z p0 p1 p2 m0 = some (r9, m9)) : MtI l yX9_toldOfWay cX9_toldOfWay 4 (some .int) rmX9_toldOfWay G b (sg ad nt z) m0 [.ref (ad 0), .int p0, .int p1, .int p2] (pEI r9 (sg ad nt z) m9) := by
  refine mtI_of (by decide) (Nat.le_of_ble_eq_true rfl) .int rfl (fun Γ hG X hnm hr => ?_)
  have hret : ∀ (pc : Nat) (lv : List (Nat × Value)), decode cX9_toldOfWay pc = .ok (.ireturn, 1) → narrow .int (.int r9) = .int r9 → Go Γ b (sg ad nt z) 0 0 pc lv [.int r9] m9 := fun pc lv d hn => hr pc lv _ _ _ d ⟨rfl, rfl, rfl⟩ hn
  show Go Γ b (sg ad nt z) 0 0 0 [(0, .ref (ad 0)), (1, .int p0), (2, .int p1), (3, .int p2)] [] m0
  refine g_iload_n X 3 dX9_toldOfWay_0 rfl rfl ?_
  obtain ⟨r1, m1, h1, hf⟩ := bi_i hf
  refine g_eSI X [.int p2] kS_X9_98 (c_X9_isPlace h1) dX9_toldOfWay_1 rfl rfl ⟨(Nat.le_of_ble_eq_true rfl), (Nat.le_of_ble_eq_true rfl)⟩ ⟨rfl, rfl⟩ ⟨(Nat.zero_le _), (Nat.zero_le _)⟩ (Nat.le_of_ble_eq_true rfl) ?_
  refine g_if_ne X (tgt := 10) dX9_toldOfWay_4 (by decide) (fun c4 => ?_) (fun c4 => ?_)
  · have hf := ie c4 hf
    refine g_iload_n X 2 dX9_toldOfWay_10 rfl rfl ?_
    by_cases c11_0 : p1 = (1 : Int32)
    · have hf := it c11_0 hf
      refine g_tblIn X (tgt := 36) dX9_toldOfWay_11 (by rw [c11_0]; decide) (by rw [c11_0]; decide) (off := 25) (by rw [c11_0]; rfl) (by decide) ?_
      refine g_aload_n X 0 dX9_toldOfWay_36 rfl rfl ?_
      refine g_getr X (x := ad 50) 0 8 8 dX9_toldOfWay_37 (sgN (by decide)) rfl (by decide) rfl iw_X9 (by decide) rfl q_fl_X9_57 rfl ?_
      refine g_aload_n X 0 dX9_toldOfWay_40 rfl rfl ?_
      refine g_getr X (x := ad 5) 0 8 1 dX9_toldOfWay_41 (sgN (by decide)) rfl (by decide) rfl iw_X9 (by decide) rfl q_fl_X9_19 rfl ?_
      refine g_iload_n X 1 dX9_toldOfWay_44 rfl rfl ?_
      refine g_iload_n X 3 dX9_toldOfWay_45 rfl rfl ?_
      obtain ⟨r46, m46, h46, hf⟩ := bi_i hf
      refine g_eVI X 50 1 [.ref (ad 5), .int p0, .int p2] kV_X9_129 (c_X2_worth (by unfold isF; decide) h46) dX9_toldOfWay_46 rfl rfl (sgN (by decide)) rfl (by decide) rfl rfl ⟨(Nat.le_of_ble_eq_true rfl), (Nat.le_of_ble_eq_true rfl)⟩ ⟨rfl, rfl⟩ ⟨(Nat.zero_le _), (Nat.zero_le _)⟩ (Nat.le_of_ble_eq_true rfl) ?_
      obtain ⟨rfl, rfl⟩ := lf2 hf
      exact hret 49 _ dX9_toldOfWay_49 rfl
    · have hf := ie c11_0 hf
      by_cases c11_1 : p1 = (2 : Int32)
      · have hf := it c11_1 hf
        refine g_tblIn X (tgt := 50) dX9_toldOfWay_11 (by rw [c11_1]; decide) (by rw [c11_1]; decide) (off := 39) (by rw [c11_1]; rfl) (by decide) ?_
        refine g_aload_n X 0 dX9_toldOfWay_50 rfl rfl ?_
        refine g_getr X (x := ad 50) 0 8 8 dX9_toldOfWay_51 (sgN (by decide)) rfl (by decide) rfl iw_X9 (by decide) rfl q_fl_X9_57 rfl ?_
        refine g_aload_n X 0 dX9_toldOfWay_54 rfl rfl ?_
        refine g_getr X (x := ad 5) 0 8 1 dX9_toldOfWay_55 (sgN (by decide)) rfl (by decide) rfl iw_X9 (by decide) rfl q_fl_X9_19 rfl ?_
        refine g_iload_n X 1 dX9_toldOfWay_58 rfl rfl ?_
        refine g_iload_n X 3 dX9_toldOfWay_59 rfl rfl ?_
        obtain ⟨r60, m60, h60, hf⟩ := bi_i hf
        refine g_eVI X 50 1 [.ref (ad 5), .int p0, .int p2] kV_X9_133 (c_X2_time (by unfold isF; decide) h60) dX9_toldOfWay_60 rfl rfl (sgN (by decide)) rfl (by decide) rfl rfl ⟨(Nat.le_of_ble_eq_true rfl), (Nat.le_of_ble_eq_true rfl)⟩ ⟨rfl, rfl⟩ ⟨(Nat.zero_le _), (Nat.zero_le _)⟩ (Nat.le_of_ble_eq_true rfl) ?_
        obtain ⟨rfl, rfl⟩ := lf2 hf
        exact hret 63 _ dX9_toldOfWay_63 rfl
      · have hf := ie c11_1 hf
        by_cases c11_2 : p1 = (3 : Int32)
        · have hf := it c11_2 hf
          refine g_tblIn X (tgt := 64) dX9_toldOfWay_11 (by rw [c11_2]; decide) (by rw [c11_2]; decide) (off := 53) (by rw [c11_2]; rfl) (by decide) ?_
          refine g_aload_n X 0 dX9_toldOfWay_64 rfl rfl ?_
          refine g_getr X (x := ad 50) 0 8 8 dX9_toldOfWay_65 (sgN (by decide)) rfl (by decide) rfl iw_X9 (by decide) rfl q_fl_X9_57 rfl ?_
          refine g_aload_n X 0 dX9_toldOfWay_68 rfl rfl ?_
          refine g_getr X (x := ad 5) 0 8 1 dX9_toldOfWay_69 (sgN (by decide)) rfl (by decide) rfl iw_X9 (by decide) rfl q_fl_X9_19 rfl ?_
          refine g_iload_n X 1 dX9_toldOfWay_72 rfl rfl ?_
          refine g_iload_n X 3 dX9_toldOfWay_73 rfl rfl ?_
          obtain ⟨r74, m74, h74, hf⟩ := bi_i hf
          refine g_eVI X 50 1 [.ref (ad 5), .int p0, .int p2] kV_X9_136 (c_X2_takes (by unfold isF; decide) h74) dX9_toldOfWay_74 rfl rfl (sgN (by decide)) rfl (by decide) rfl rfl ⟨(Nat.le_of_ble_eq_true rfl), (Nat.le_of_ble_eq_true rfl)⟩ ⟨rfl, rfl⟩ ⟨(Nat.zero_le _), (Nat.zero_le _)⟩ (Nat.le_of_ble_eq_true rfl) ?_
          refine g_if_eq X (tgt := 84) dX9_toldOfWay_77 (by decide) (fun c77 => ?_) (fun c77 => ?_)
          · have hf := it c77 hf
            refine g_iconst X (v := 0) dX9_toldOfWay_84 (by decide) ?_
            obtain ⟨rfl, rfl⟩ := lf2 hf
            exact hret 85 _ dX9_toldOfWay_85 rfl
          · have hf := ie c77 hf
            refine g_iconst X (v := 1) dX9_toldOfWay_80 (by decide) ?_
            refine g_goto X (tgt := 85) dX9_toldOfWay_81 (by decide) ?_
            obtain ⟨rfl, rfl⟩ := lf2 hf
            exact hret 85 _ dX9_toldOfWay_85 rfl
        · have hf := ie c11_2 hf
          refine g_tblOut X (tgt := 86) dX9_toldOfWay_11 (by have g0 := lv_neT (a := 1) c11_0 rfl; have g1 := lv_neT (a := 2) c11_1 rfl; have g2 := lv_neT (a := 3) c11_2 rfl; omega) (by decide) ?_
          refine g_bipush X (v := -2) dX9_toldOfWay_86 (by decide) ?_
          obtain ⟨rfl, rfl⟩ := lf2 hf
          exact hret 88 _ dX9_toldOfWay_88 rfl
  · have hf := it c4 hf
    refine g_bipush X (v := -2) dX9_toldOfWay_7 (by decide) ?_
    obtain ⟨rfl, rfl⟩ := lf2 hf
    exact hret 9 _ dX9_toldOfWay_9 rfl

theorem kV_X9_126 : wcV RX9 126 RX9 yX9_toldOfWay cX9_toldOfWay 4 (some .int) 3 := ⟨q_ml_X9_126, q_im_yX9_toldOfWay, q_se_yX9_toldOfWay, q_in_X9, q_co_yX9_toldOfWay, by decide +kernel⟩

theorem kV_X9_122 : wcV RX9 122 RX4 yX4_reach cX4_reach 5 (some .int) 2 := ⟨q_ml_X9_122, q_im_yX4_reach, q_se_yX4_reach, q_in_X4, q_co_yX4_reach, by decide +kernel⟩

theorem kV_X9_112 : wcV RX9 112 RX0 yX0_hoard cX0_hoard 2 (some .int) 1 := ⟨q_ml_X9_112, q_im_yX0_hoard, q_se_yX0_hoard, q_in_X0, q_co_yX0_hoard, by decide +kernel⟩

def X9_told (nt : Nat) (z : Nat → Nat) (p0 : Int32) (p1 : Int32) (m0 : Mem) : Option (Int32 × Mem) :=
  if p1 = 0 then
    some (m0.1 5 1, m0)
  else
    bi (X9_isPerson p0 m0) fun r14 m14 =>
    if r14 = 0 then
      some ((-2 : Int32), m14)
    else
      if 0 ≤ p1 then
        if (6 : Int32) < p1 then
          if p1 = (7 : Int32) then
            bi (X0_hoard 5 p0 m14) fun r55 m55 =>
            some (r55, m55)
          else
            if p1 = (8 : Int32) then
              if inn p0 6 then
              if inn p0 6 then
              bi (X4_reach (m14.1 8 p0.toNatClampNeg) (m14.1 9 p0.toNatClampNeg) m14) fun r87 m87 =>
              some (r87, m87)
              else none
              else none
            else
              bi (X9_toldOfWay nt z p0 (p1 / (10 : Int32)) (p1 - p1 / (10 : Int32) * (10 : Int32)) m14) fun r101 m101 =>
              some (r101, m101)
        else
          bq (X0_row 5 p1 m14) fun r38 m38 =>
          oq r38
            (none)
            (fun w38 =>
            if inn p0 6 then
            some (m38.1 w38 p0.toNatClampNeg, m38)
            else none)
      else
        some ((-2 : Int32), m14)
abbrev rmX9_told : Room := { frames := 5, cells := 0, slots := 0, locals := 136 }

set_option maxRecDepth 100000 in
set_option maxHeartbeats 4000000 in
theorem c_X9_told {l : Launch} {G : GG} {b : Nat} {ad : Nat → Nat} {nt : Nat} {z : Nat → Nat} {p0 : Int32} {p1 : Int32} {m0 : Mem} {r9 : Int32} {m9 : Mem} (hf : X9_told nt z p0 p1 m0 = some (r9, m9)) : MtI l yX9_told cX9_told 3 (some .int) rmX9_told G b (sg ad nt z) m0 [.ref (ad 0), .int p0, .int p1] (pEI r9 (sg ad nt z) m9) := by
  refine mtI_of (by decide) (Nat.le_of_ble_eq_true rfl) .int rfl (fun Γ hG X hnm hr => ?_)
  have hret : ∀ (pc : Nat) (lv : List (Nat × Value)), decode cX9_told pc = .ok (.ireturn, 1) → narrow .int (.int r9) = .int r9 → Go Γ b (sg ad nt z) 0 0 pc lv [.int r9] m9 := fun pc lv d hn => hr pc lv _ _ _ d ⟨rfl, rfl, rfl⟩ hn
  show Go Γ b (sg ad nt z) 0 0 0 [(0, .ref (ad 0)), (1, .int p0), (2, .int p1)] [] m0
  refine g_iload_n X 2 dX9_told_0 rfl rfl ?_
  refine g_if_ne X (tgt := 12) dX9_told_1 (by decide) (fun c1 => ?_) (fun c1 => ?_)
  · have hf := ie c1 hf
    refine g_aload_n X 0 dX9_told_12 rfl rfl ?_
    refine g_iload_n X 1 dX9_told_13 rfl rfl ?_
    obtain ⟨r14, m14, h14, hf⟩ := bi_i hf
    refine g_eVI X 0 8 [.int p0] kV_X9_86 (c_X9_isPerson h14) dX9_told_14 rfl rfl (sgN (by decide)) rfl (by decide) rfl rfl ⟨(Nat.le_of_ble_eq_true rfl), (Nat.le_of_ble_eq_true rfl)⟩ ⟨rfl, rfl⟩ ⟨(Nat.zero_le _), (Nat.zero_le _)⟩ (Nat.le_of_ble_eq_true rfl) ?_
    refine g_if_eq X (tgt := 24) dX9_told_17 (by decide) (fun c17 => ?_) (fun c17 => ?_)
    · have hf := it c17 hf
      refine g_bipush X (v := -2) dX9_told_24 (by decide) ?_
      obtain ⟨rfl, rfl⟩ := lf2 hf
      exact hret 26 _ dX9_told_26 rfl
    · have hf := ie c17 hf
      refine g_iload_n X 2 dX9_told_20 rfl rfl ?_
      refine g_if_ge X (tgt := 27) dX9_told_21 (by decide) (fun c21 => ?_) (fun c21 => ?_)
      · have hf := it c21 hf
        refine g_iload_n X 2 dX9_told_27 rfl rfl ?_
        refine g_bipush X (v := 6) dX9_told_28 (by decide) ?_
        refine g_icmp_gt X (tgt := 44) dX9_told_30 (by decide) (fun c30 => ?_) (fun c30 => ?_)
        · have hf := it c30 hf
          refine g_iload_n X 2 dX9_told_44 rfl rfl ?_
          refine g_bipush X (v := 7) dX9_told_45 (by decide) ?_
          refine g_icmp_ne X (tgt := 59) dX9_told_47 (by decide) (fun c47 => ?_) (fun c47 => ?_)
          · have hf := ie c47 hf
            refine g_iload_n X 2 dX9_told_59 rfl rfl ?_
            refine g_bipush X (v := 8) dX9_told_60 (by decide) ?_
            refine g_icmp_ne X (tgt := 91) dX9_told_62 (by decide) (fun c62 => ?_) (fun c62 => ?_)
            · have hf := ie c62 hf
              refine g_aload_n X 0 dX9_told_91 rfl rfl ?_
              refine g_iload_n X 1 dX9_told_92 rfl rfl ?_
              refine g_iload_n X 2 dX9_told_93 rfl rfl ?_
              refine g_bipush X (v := 10) dX9_told_94 (by decide) ?_
              refine g_idiv X dX9_told_96 (by decide) ?_
              refine g_iload_n X 2 dX9_told_97 rfl rfl ?_
              refine g_bipush X (v := 10) dX9_told_98 (by decide) ?_
              refine g_irem X dX9_told_100 (by decide) ?_
              obtain ⟨r101, m101, h101, hf⟩ := bi_i hf
              refine g_eVI X 0 8 [.int p0, .int (p1 / (10 : Int32)), .int (p1 - p1 / (10 : Int32) * (10 : Int32))] kV_X9_126 (c_X9_toldOfWay h101) dX9_told_101 rfl rfl (sgN (by decide)) rfl (by decide) rfl rfl ⟨(Nat.le_of_ble_eq_true rfl), (Nat.le_of_ble_eq_true rfl)⟩ ⟨rfl, rfl⟩ ⟨(Nat.zero_le _), (Nat.zero_le _)⟩ (Nat.le_of_ble_eq_true rfl) ?_
              obtain ⟨rfl, rfl⟩ := lf2 hf
              exact hret 104 _ dX9_told_104 rfl
            · have hf := it c62 hf
              refine g_aload_n X 0 dX9_told_65 rfl rfl ?_
              refine g_getr X (x := ad 1) 0 8 0 dX9_told_66 (sgN (by decide)) rfl (by decide) rfl iw_X9 (by decide) rfl q_fl_X9_10 rfl ?_
              refine g_aload_n X 0 dX9_told_69 rfl rfl ?_
              refine g_getr X (x := ad 5) 0 8 1 dX9_told_70 (sgN (by decide)) rfl (by decide) rfl iw_X9 (by decide) rfl q_fl_X9_19 rfl ?_
              refine g_getr X (x := ad 8) 5 0 5 dX9_told_73 (sgN (by decide)) rfl (by decide) rfl iw_X0 (by decide) rfl q_fl_X9_116 rfl ?_
              refine g_iload_n X 1 dX9_told_76 rfl rfl ?_
              obtain ⟨h77, hf⟩ := grd hf
              refine g_iald X 8 (n := 6) dX9_told_77 (sgN (by decide)) rfl rfl h77 ?_
              refine g_aload_n X 0 dX9_told_78 rfl rfl ?_
              refine g_getr X (x := ad 5) 0 8 1 dX9_told_79 (sgN (by decide)) rfl (by decide) rfl iw_X9 (by decide) rfl q_fl_X9_19 rfl ?_
              refine g_getr X (x := ad 9) 5 0 6 dX9_told_82 (sgN (by decide)) rfl (by decide) rfl iw_X0 (by decide) rfl q_fl_X9_119 rfl ?_
              refine g_iload_n X 1 dX9_told_85 rfl rfl ?_
              obtain ⟨h86, hf⟩ := grd hf
              refine g_iald X 9 (n := 6) dX9_told_86 (sgN (by decide)) rfl rfl h86 ?_
              obtain ⟨r87, m87, h87, hf⟩ := bi_i hf
              refine g_eVI X 1 3 [.int (m14.1 8 p0.toNatClampNeg), .int (m14.1 9 p0.toNatClampNeg)] kV_X9_122 (c_X4_reach h87) dX9_told_87 rfl rfl (sgN (by decide)) rfl (by decide) rfl rfl ⟨(Nat.le_of_ble_eq_true rfl), (Nat.le_of_ble_eq_true rfl)⟩ ⟨rfl, rfl⟩ ⟨(Nat.zero_le _), (Nat.zero_le _)⟩ (Nat.le_of_ble_eq_true rfl) ?_
              obtain ⟨rfl, rfl⟩ := lf2 hf
              exact hret 90 _ dX9_told_90 rfl
          · have hf := it c47 hf
            refine g_aload_n X 0 dX9_told_50 rfl rfl ?_
            refine g_getr X (x := ad 5) 0 8 1 dX9_told_51 (sgN (by decide)) rfl (by decide) rfl iw_X9 (by decide) rfl q_fl_X9_19 rfl ?_
            refine g_iload_n X 1 dX9_told_54 rfl rfl ?_
            obtain ⟨r55, m55, h55, hf⟩ := bi_i hf
            refine g_eVI X 5 0 [.int p0] kV_X9_112 (c_X0_hoard (by unfold isF; decide) h55) dX9_told_55 rfl rfl (sgN (by decide)) rfl (by decide) rfl rfl ⟨(Nat.le_of_ble_eq_true rfl), (Nat.le_of_ble_eq_true rfl)⟩ ⟨rfl, rfl⟩ ⟨(Nat.zero_le _), (Nat.zero_le _)⟩ (Nat.le_of_ble_eq_true rfl) ?_
            obtain ⟨rfl, rfl⟩ := lf2 hf
            exact hret 58 _ dX9_told_58 rfl
        · have hf := ie c30 hf
          refine g_aload_n X 0 dX9_told_33 rfl rfl ?_
          refine g_getr X (x := ad 5) 0 8 1 dX9_told_34 (sgN (by decide)) rfl (by decide) rfl iw_X9 (by decide) rfl q_fl_X9_19 rfl ?_
          refine g_iload_n X 2 dX9_told_37 rfl rfl ?_
          obtain ⟨r38, m38, h38, hf⟩ := bq_i hf
          have ok38 := rowOk (by unfold isF; decide) h38
          cases r38 with
          | none =>
            cases hf
          | some w38 =>
            have fw38 : isA w38 := ok38 _ rfl
            refine g_eVQ X 5 0 [.int p1] kV_X9_94 (c_X0_row (by unfold isF; decide) h38) dX9_told_38 rfl rfl (sgN (by decide)) rfl (by decide) rfl rfl ⟨(Nat.le_of_ble_eq_true rfl), (Nat.le_of_ble_eq_true rfl)⟩ ⟨rfl, rfl⟩ ⟨(Nat.zero_le _), (Nat.zero_le _)⟩ (Nat.le_of_ble_eq_true rfl) ?_
            refine g_iload_n X 1 dX9_told_41 rfl rfl ?_
            obtain ⟨h42, hf⟩ := grd hf
            refine g_iald X w38 (n := 6) dX9_told_42 (A_lt0 fw38) (A_kd0 fw38) (A_ln0 fw38) h42 ?_
            obtain ⟨rfl, rfl⟩ := lf2 hf
            exact hret 43 _ dX9_told_43 rfl
      · have hf := ie c21 hf
        refine g_bipush X (v := -2) dX9_told_24 (by decide) ?_
        obtain ⟨rfl, rfl⟩ := lf2 hf
        exact hret 26 _ dX9_told_26 rfl
  · have hf := it c1 hf
    refine g_aload_n X 0 dX9_told_4 rfl rfl ?_
    refine g_getr X (x := ad 5) 0 8 1 dX9_told_5 (sgN (by decide)) rfl (by decide) rfl iw_X9 (by decide) rfl q_fl_X9_19 rfl ?_
    refine g_getI X 5 0 1 dX9_told_8 (sgN (by decide)) rfl (by decide) rfl iw_X0 (by decide) rfl q_fl_X9_90 ?_
    obtain ⟨rfl, rfl⟩ := lf2 hf
    exact hret 11 _ dX9_told_11 rfl

theorem kV_X9_140 : wcV RX9 140 RX3 yX3_add cX3_add 2 (some .int) 1 := ⟨q_ml_X9_140, q_im_yX3_add, q_se_yX3_add, q_in_X3, q_co_yX3_add, by decide +kernel⟩

def X9_feed (p0 : Int32) (m0 : Mem) : Option (Int32 × Mem) :=
  if p0 < 0 then
    some ((-2 : Int32), m0)
  else
    if p0 ≤ (255 : Int32) then
      bi (X3_add p0 m0) fun r19 m19 =>
      some (r19, m19)
    else
      some ((-2 : Int32), m0)
abbrev rmX9_feed : Room := { frames := 1, cells := 0, slots := 0, locals := 21 }

set_option maxRecDepth 100000 in
set_option maxHeartbeats 4000000 in
theorem c_X9_feed {l : Launch} {G : GG} {b : Nat} {ad : Nat → Nat} {nt : Nat} {z : Nat → Nat} {p0 : Int32} {m0 : Mem} {r9 : Int32} {m9 : Mem} (hf : X9_feed p0 m0 = some (r9, m9)) : MtI l yX9_feed cX9_feed 2 (some .int) rmX9_feed G b (sg ad nt z) m0 [.ref (ad 0), .int p0] (pEI r9 (sg ad nt z) m9) := by
  refine mtI_of (by decide) (Nat.le_of_ble_eq_true rfl) .int rfl (fun Γ hG X hnm hr => ?_)
  have hret : ∀ (pc : Nat) (lv : List (Nat × Value)), decode cX9_feed pc = .ok (.ireturn, 1) → narrow .int (.int r9) = .int r9 → Go Γ b (sg ad nt z) 0 0 pc lv [.int r9] m9 := fun pc lv d hn => hr pc lv _ _ _ d ⟨rfl, rfl, rfl⟩ hn
  show Go Γ b (sg ad nt z) 0 0 0 [(0, .ref (ad 0)), (1, .int p0)] [] m0
  refine g_iload_n X 1 dX9_feed_0 rfl rfl ?_
  refine g_if_lt X (tgt := 11) dX9_feed_1 (by decide) (fun c1 => ?_) (fun c1 => ?_)
  · have hf := it c1 hf
    refine g_bipush X (v := -2) dX9_feed_11 (by decide) ?_
    obtain ⟨rfl, rfl⟩ := lf2 hf
    exact hret 13 _ dX9_feed_13 rfl
  · have hf := ie c1 hf
    refine g_iload_n X 1 dX9_feed_4 rfl rfl ?_
    refine g_sipush X (v := 255) dX9_feed_5 (by decide) ?_
    refine g_icmp_le X (tgt := 14) dX9_feed_8 (by decide) (fun c8 => ?_) (fun c8 => ?_)
    · have hf := it c8 hf
      refine g_aload_n X 0 dX9_feed_14 rfl rfl ?_
      refine g_getr X (x := ad 30) 0 8 6 dX9_feed_15 (sgN (by decide)) rfl (by decide) rfl iw_X9 (by decide) rfl q_fl_X9_39 rfl ?_
      refine g_iload_n X 1 dX9_feed_18 rfl rfl ?_
      obtain ⟨r19, m19, h19, hf⟩ := bi_i hf
      refine g_eVI X 30 2 [.int p0] kV_X9_140 (c_X3_add h19) dX9_feed_19 rfl rfl (sgN (by decide)) rfl (by decide) rfl rfl ⟨(Nat.le_of_ble_eq_true rfl), (Nat.le_of_ble_eq_true rfl)⟩ ⟨rfl, rfl⟩ ⟨(Nat.zero_le _), (Nat.zero_le _)⟩ (Nat.le_of_ble_eq_true rfl) ?_
      obtain ⟨rfl, rfl⟩ := lf2 hf
      exact hret 22 _ dX9_feed_22 rfl
    · have hf := ie c8 hf
      refine g_bipush X (v := -2) dX9_feed_11 (by decide) ?_
      obtain ⟨rfl, rfl⟩ := lf2 hf
      exact hret 13 _ dX9_feed_13 rfl

def X9_force (p0 : Int32) (m0 : Mem) : Option (Int32 × Mem) :=
  if p0 < 0 then
    some ((-2 : Int32), m0)
  else
    if p0 < (m0.1 33 2) then
      some (m0.1 5 2, pI m0 5 2 p0)
    else
      some ((-2 : Int32), m0)
abbrev rmX9_force : Room := { frames := 0, cells := 0, slots := 0, locals := 0 }

set_option maxRecDepth 100000 in
set_option maxHeartbeats 4000000 in
theorem c_X9_force {l : Launch} {G : GG} {b : Nat} {ad : Nat → Nat} {nt : Nat} {z : Nat → Nat} {p0 : Int32} {m0 : Mem} {r9 : Int32} {m9 : Mem} (hf : X9_force p0 m0 = some (r9, m9)) : MtI l yX9_force cX9_force 3 (some .int) rmX9_force G b (sg ad nt z) m0 [.ref (ad 0), .int p0] (pEI r9 (sg ad nt z) m9) := by
  refine mtI_of (by decide) (Nat.le_of_ble_eq_true rfl) .int rfl (fun Γ hG X hnm hr => ?_)
  have hret : ∀ (pc : Nat) (lv : List (Nat × Value)), decode cX9_force pc = .ok (.ireturn, 1) → narrow .int (.int r9) = .int r9 → Go Γ b (sg ad nt z) 0 0 pc lv [.int r9] m9 := fun pc lv d hn => hr pc lv _ _ _ d ⟨rfl, rfl, rfl⟩ hn
  show Go Γ b (sg ad nt z) 0 0 0 [(0, .ref (ad 0)), (1, .int p0)] [] m0
  refine g_iload_n X 1 dX9_force_0 rfl rfl ?_
  refine g_if_lt X (tgt := 15) dX9_force_1 (by decide) (fun c1 => ?_) (fun c1 => ?_)
  · have hf := it c1 hf
    refine g_bipush X (v := -2) dX9_force_15 (by decide) ?_
    obtain ⟨rfl, rfl⟩ := lf2 hf
    exact hret 17 _ dX9_force_17 rfl
  · have hf := ie c1 hf
    refine g_iload_n X 1 dX9_force_4 rfl rfl ?_
    refine g_aload_n X 0 dX9_force_5 rfl rfl ?_
    refine g_getr X (x := ad 33) 0 8 7 dX9_force_6 (sgN (by decide)) rfl (by decide) rfl iw_X9 (by decide) rfl q_fl_X9_48 rfl ?_
    refine g_getI X 33 4 2 dX9_force_9 (sgN (by decide)) rfl (by decide) rfl iw_X5 (by decide) rfl q_fl_X9_142 ?_
    refine g_icmp_lt X (tgt := 18) dX9_force_12 (by decide) (fun c12 => ?_) (fun c12 => ?_)
    · have hf := it c12 hf
      refine g_aload_n X 0 dX9_force_18 rfl rfl ?_
      refine g_getr X (x := ad 5) 0 8 1 dX9_force_19 (sgN (by decide)) rfl (by decide) rfl iw_X9 (by decide) rfl q_fl_X9_19 rfl ?_
      refine g_getI X 5 0 2 dX9_force_22 (sgN (by decide)) rfl (by decide) rfl iw_X0 (by decide) rfl q_fl_X9_148 ?_
      refine g_istore_n X (lv' := [(2, .int (m0.1 5 2)), (0, .ref (ad 0)), (1, .int p0)]) dX9_force_25 rfl (by decide) rfl ?_
      refine g_aload_n X 1 dX9_force_26 rfl rfl ?_
      refine g_getr X (x := ad 5) 0 8 1 dX9_force_27 (sgN (by decide)) rfl (by decide) rfl iw_X9 (by decide) rfl q_fl_X9_19 rfl ?_
      refine g_iload_n X 2 dX9_force_30 rfl rfl ?_
      refine g_putI X (tyf := tyX0) 5 0 2 dX9_force_31 (sgN (by decide)) rfl (by decide) rfl iw_X0 (by decide) rfl q_fl_X9_148 tyX0_ok nmX0 rfl rfl rfl ?_
      refine g_iload_n X 0 dX9_force_34 rfl rfl ?_
      obtain ⟨rfl, rfl⟩ := lf2 hf
      exact hret 35 _ dX9_force_35 rfl
    · have hf := ie c12 hf
      refine g_bipush X (v := -2) dX9_force_15 (by decide) ?_
      obtain ⟨rfl, rfl⟩ := lf2 hf
      exact hret 17 _ dX9_force_17 rfl

theorem kV_X9_151 : wcV RX9 151 RX2 yX2_payment cX2_payment 10 (some .int) 4 := ⟨q_ml_X9_151, q_im_yX2_payment, q_se_yX2_payment, q_in_X2, q_co_yX2_payment, by decide +kernel⟩

def X9_pays (nt : Nat) (z : Nat → Nat) (p0 : Int32) (p1 : Int32) (p2 : Int32) (m0 : Mem) : Option (Int32 × Mem) :=
  bi (X9_isPerson p0 m0) fun r2 m2 =>
  if r2 = 0 then
    some ((-2 : Int32), m2)
  else
    bi (X9_isPerson p1 m2) fun r10 m10 =>
    if r10 = 0 then
      some ((-2 : Int32), m10)
    else
      if p0 = p1 then
        some ((-2 : Int32), m10)
      else
        bi (X9_isPlace p2 m10) fun r22 m22 =>
        if r22 = 0 then
          some ((-2 : Int32), m22)
        else
          bi (X2_payment nt z 5 p0 p1 p2 m22) fun r42 m42 =>
          some (r42, m42)
abbrev rmX9_pays : Room := { frames := 5, cells := 0, slots := 0, locals := 142 }

set_option maxRecDepth 100000 in
set_option maxHeartbeats 4000000 in
theorem c_X9_pays {l : Launch} {G : GG} {b : Nat} {ad : Nat → Nat} {nt : Nat} {z : Nat → Nat} {p0 : Int32} {p1 : Int32} {p2 : Int32} {m0 : Mem} {r9 : Int32} {m9 : Mem} (hf : X9_pays nt z p0 p1 p2 m0 = some (r9, m9)) : MtI l yX9_pays cX9_pays 4 (some .int) rmX9_pays G b (sg ad nt z) m0 [.ref (ad 0), .int p0, .int p1, .int p2] (pEI r9 (sg ad nt z) m9) := by
  refine mtI_of (by decide) (Nat.le_of_ble_eq_true rfl) .int rfl (fun Γ hG X hnm hr => ?_)
  have hret : ∀ (pc : Nat) (lv : List (Nat × Value)), decode cX9_pays pc = .ok (.ireturn, 1) → narrow .int (.int r9) = .int r9 → Go Γ b (sg ad nt z) 0 0 pc lv [.int r9] m9 := fun pc lv d hn => hr pc lv _ _ _ d ⟨rfl, rfl, rfl⟩ hn
  show Go Γ b (sg ad nt z) 0 0 0 [(0, .ref (ad 0)), (1, .int p0), (2, .int p1), (3, .int p2)] [] m0
  refine g_aload_n X 0 dX9_pays_0 rfl rfl ?_
  refine g_iload_n X 1 dX9_pays_1 rfl rfl ?_
  obtain ⟨r2, m2, h2, hf⟩ := bi_i hf
  refine g_eVI X 0 8 [.int p0] kV_X9_86 (c_X9_isPerson h2) dX9_pays_2 rfl rfl (sgN (by decide)) rfl (by decide) rfl rfl ⟨(Nat.le_of_ble_eq_true rfl), (Nat.le_of_ble_eq_true rfl)⟩ ⟨rfl, rfl⟩ ⟨(Nat.zero_le _), (Nat.zero_le _)⟩ (Nat.le_of_ble_eq_true rfl) ?_
  refine g_if_eq X (tgt := 28) dX9_pays_5 (by decide) (fun c5 => ?_) (fun c5 => ?_)
  · have hf := it c5 hf
    refine g_bipush X (v := -2) dX9_pays_28 (by decide) ?_
    obtain ⟨rfl, rfl⟩ := lf2 hf
    exact hret 30 _ dX9_pays_30 rfl
  · have hf := ie c5 hf
    refine g_aload_n X 0 dX9_pays_8 rfl rfl ?_
    refine g_iload_n X 2 dX9_pays_9 rfl rfl ?_
    obtain ⟨r10, m10, h10, hf⟩ := bi_i hf
    refine g_eVI X 0 8 [.int p1] kV_X9_86 (c_X9_isPerson h10) dX9_pays_10 rfl rfl (sgN (by decide)) rfl (by decide) rfl rfl ⟨(Nat.le_of_ble_eq_true rfl), (Nat.le_of_ble_eq_true rfl)⟩ ⟨rfl, rfl⟩ ⟨(Nat.zero_le _), (Nat.zero_le _)⟩ (Nat.le_of_ble_eq_true rfl) ?_
    refine g_if_eq X (tgt := 28) dX9_pays_13 (by decide) (fun c13 => ?_) (fun c13 => ?_)
    · have hf := it c13 hf
      refine g_bipush X (v := -2) dX9_pays_28 (by decide) ?_
      obtain ⟨rfl, rfl⟩ := lf2 hf
      exact hret 30 _ dX9_pays_30 rfl
    · have hf := ie c13 hf
      refine g_iload_n X 1 dX9_pays_16 rfl rfl ?_
      refine g_iload_n X 2 dX9_pays_17 rfl rfl ?_
      refine g_icmp_eq X (tgt := 28) dX9_pays_18 (by decide) (fun c18 => ?_) (fun c18 => ?_)
      · have hf := it c18 hf
        refine g_bipush X (v := -2) dX9_pays_28 (by decide) ?_
        obtain ⟨rfl, rfl⟩ := lf2 hf
        exact hret 30 _ dX9_pays_30 rfl
      · have hf := ie c18 hf
        refine g_iload_n X 3 dX9_pays_21 rfl rfl ?_
        obtain ⟨r22, m22, h22, hf⟩ := bi_i hf
        refine g_eSI X [.int p2] kS_X9_98 (c_X9_isPlace h22) dX9_pays_22 rfl rfl ⟨(Nat.le_of_ble_eq_true rfl), (Nat.le_of_ble_eq_true rfl)⟩ ⟨rfl, rfl⟩ ⟨(Nat.zero_le _), (Nat.zero_le _)⟩ (Nat.le_of_ble_eq_true rfl) ?_
        refine g_if_ne X (tgt := 31) dX9_pays_25 (by decide) (fun c25 => ?_) (fun c25 => ?_)
        · have hf := ie c25 hf
          refine g_aload_n X 0 dX9_pays_31 rfl rfl ?_
          refine g_getr X (x := ad 50) 0 8 8 dX9_pays_32 (sgN (by decide)) rfl (by decide) rfl iw_X9 (by decide) rfl q_fl_X9_57 rfl ?_
          refine g_aload_n X 0 dX9_pays_35 rfl rfl ?_
          refine g_getr X (x := ad 5) 0 8 1 dX9_pays_36 (sgN (by decide)) rfl (by decide) rfl iw_X9 (by decide) rfl q_fl_X9_19 rfl ?_
          refine g_iload_n X 1 dX9_pays_39 rfl rfl ?_
          refine g_iload_n X 2 dX9_pays_40 rfl rfl ?_
          refine g_iload_n X 3 dX9_pays_41 rfl rfl ?_
          obtain ⟨r42, m42, h42, hf⟩ := bi_i hf
          refine g_eVI X 50 1 [.ref (ad 5), .int p0, .int p1, .int p2] kV_X9_151 (c_X2_payment (by unfold isF; decide) h42) dX9_pays_42 rfl rfl (sgN (by decide)) rfl (by decide) rfl rfl ⟨(Nat.le_of_ble_eq_true rfl), (Nat.le_of_ble_eq_true rfl)⟩ ⟨rfl, rfl⟩ ⟨(Nat.zero_le _), (Nat.zero_le _)⟩ (Nat.le_of_ble_eq_true rfl) ?_
          obtain ⟨rfl, rfl⟩ := lf2 hf
          exact hret 45 _ dX9_pays_45 rfl
        · have hf := it c25 hf
          refine g_bipush X (v := -2) dX9_pays_28 (by decide) ?_
          obtain ⟨rfl, rfl⟩ := lf2 hf
          exact hret 30 _ dX9_pays_30 rfl

theorem kV_X9_155 : wcV RX9 155 RX9 yX9_pays cX9_pays 4 (some .int) 3 := ⟨q_ml_X9_155, q_im_yX9_pays, q_se_yX9_pays, q_in_X9, q_co_yX9_pays, by decide +kernel⟩

theorem kV_X9_158 : wcV RX9 158 RX2 yX2_deal cX2_deal 9 (none) 5 := ⟨q_ml_X9_158, q_im_yX2_deal, q_se_yX2_deal, q_in_X2, q_co_yX2_deal, by decide +kernel⟩

def X9_trade (nt : Nat) (z : Nat → Nat) (p0 : Int32) (p1 : Int32) (p2 : Int32) (m0 : Mem) : Option (Int32 × Mem) :=
  bi (X9_pays nt z p0 p1 p2 m0) fun r4 m4 =>
  if r4 = (-2 : Int32) then
    some ((-2 : Int32), m4)
  else
    if r4 = (-1 : Int32) then
      some ((-3 : Int32), m4)
    else
      bv (X2_deal nt z 5 p0 p1 p2 r4 m4) fun m41 =>
      some (r4, m41)
abbrev rmX9_trade : Room := { frames := 6, cells := 0, slots := 0, locals := 165 }

set_option maxRecDepth 100000 in
set_option maxHeartbeats 4000000 in
theorem c_X9_trade {l : Launch} {G : GG} {b : Nat} {ad : Nat → Nat} {nt : Nat} {z : Nat → Nat} {p0 : Int32} {p1 : Int32} {p2 : Int32} {m0 : Mem} {r9 : Int32} {m9 : Mem} (hf : X9_trade nt z p0 p1 p2 m0 = some (r9, m9)) : MtI l yX9_trade cX9_trade 5 (some .int) rmX9_trade G b (sg ad nt z) m0 [.ref (ad 0), .int p0, .int p1, .int p2] (pEI r9 (sg ad nt z) m9) := by
  refine mtI_of (by decide) (Nat.le_of_ble_eq_true rfl) .int rfl (fun Γ hG X hnm hr => ?_)
  have hret : ∀ (pc : Nat) (lv : List (Nat × Value)), decode cX9_trade pc = .ok (.ireturn, 1) → narrow .int (.int r9) = .int r9 → Go Γ b (sg ad nt z) 0 0 pc lv [.int r9] m9 := fun pc lv d hn => hr pc lv _ _ _ d ⟨rfl, rfl, rfl⟩ hn
  show Go Γ b (sg ad nt z) 0 0 0 [(0, .ref (ad 0)), (1, .int p0), (2, .int p1), (3, .int p2)] [] m0
  refine g_aload_n X 0 dX9_trade_0 rfl rfl ?_
  refine g_iload_n X 1 dX9_trade_1 rfl rfl ?_
  refine g_iload_n X 2 dX9_trade_2 rfl rfl ?_
  refine g_iload_n X 3 dX9_trade_3 rfl rfl ?_
  obtain ⟨r4, m4, h4, hf⟩ := bi_i hf
  refine g_eVI X 0 8 [.int p0, .int p1, .int p2] kV_X9_155 (c_X9_pays h4) dX9_trade_4 rfl rfl (sgN (by decide)) rfl (by decide) rfl rfl ⟨(Nat.le_of_ble_eq_true rfl), (Nat.le_of_ble_eq_true rfl)⟩ ⟨rfl, rfl⟩ ⟨(Nat.zero_le _), (Nat.zero_le _)⟩ (Nat.le_of_ble_eq_true rfl) ?_
  refine g_istore X (lv' := [(4, .int r4), (0, .ref (ad 0)), (1, .int p0), (2, .int p1), (3, .int p2)]) dX9_trade_7 (by decide) rfl ?_
  refine g_iload X 0 dX9_trade_9 rfl ?_
  refine g_bipush X (v := -2) dX9_trade_11 (by decide) ?_
  refine g_icmp_ne X (tgt := 19) dX9_trade_13 (by decide) (fun c13 => ?_) (fun c13 => ?_)
  · have hf := ie c13 hf
    refine g_iload X 0 dX9_trade_19 rfl ?_
    refine g_iconst X (v := -1) dX9_trade_21 (by decide) ?_
    refine g_icmp_ne X (tgt := 28) dX9_trade_22 (by decide) (fun c22 => ?_) (fun c22 => ?_)
    · have hf := ie c22 hf
      refine g_aload_n X 1 dX9_trade_28 rfl rfl ?_
      refine g_getr X (x := ad 50) 0 8 8 dX9_trade_29 (sgN (by decide)) rfl (by decide) rfl iw_X9 (by decide) rfl q_fl_X9_57 rfl ?_
      refine g_aload_n X 1 dX9_trade_32 rfl rfl ?_
      refine g_getr X (x := ad 5) 0 8 1 dX9_trade_33 (sgN (by decide)) rfl (by decide) rfl iw_X9 (by decide) rfl q_fl_X9_19 rfl ?_
      refine g_iload_n X 2 dX9_trade_36 rfl rfl ?_
      refine g_iload_n X 3 dX9_trade_37 rfl rfl ?_
      refine g_iload_n X 4 dX9_trade_38 rfl rfl ?_
      refine g_iload X 0 dX9_trade_39 rfl ?_
      obtain ⟨m41, h41, hf⟩ := bv_i hf
      refine g_eVV X 50 1 [.ref (ad 5), .int p0, .int p1, .int p2, .int r4] kV_X9_158 (c_X2_deal (by unfold isF; decide) h41) dX9_trade_41 rfl rfl (sgN (by decide)) rfl (by decide) rfl rfl ⟨(Nat.le_of_ble_eq_true rfl), (Nat.le_of_ble_eq_true rfl)⟩ ⟨rfl, rfl⟩ ⟨(Nat.zero_le _), (Nat.zero_le _)⟩ (Nat.le_of_ble_eq_true rfl) ?_
      refine g_iload X 0 dX9_trade_44 rfl ?_
      obtain ⟨rfl, rfl⟩ := lf2 hf
      exact hret 46 _ dX9_trade_46 rfl
    · have hf := it c22 hf
      refine g_bipush X (v := -3) dX9_trade_25 (by decide) ?_
      obtain ⟨rfl, rfl⟩ := lf2 hf
      exact hret 27 _ dX9_trade_27 rfl
  · have hf := it c13 hf
    refine g_bipush X (v := -2) dX9_trade_16 (by decide) ?_
    obtain ⟨rfl, rfl⟩ := lf2 hf
    exact hret 18 _ dX9_trade_18 rfl

theorem kV_X9_162 : wcV RX9 162 RX2 yX2_rounds cX2_rounds 11 (some .int) 3 := ⟨q_ml_X9_162, q_im_yX2_rounds, q_se_yX2_rounds, q_in_X2, q_co_yX2_rounds, by decide +kernel⟩

def X9_round (nt : Nat) (z : Nat → Nat) (m0 : Mem) : Option (Int32 × Mem) :=
  if (m0.1 5 1) < (999 : Int32) then
    bi (X2_rounds nt z 5 (1 : Int32) (-1 : Int32) m0) fun r26 m26 =>
    some (r26, m26)
  else
    some ((-3 : Int32), m0)
abbrev rmX9_round : Room := { frames := 6, cells := 0, slots := 0, locals := 172 }

set_option maxRecDepth 100000 in
set_option maxHeartbeats 4000000 in
theorem c_X9_round {l : Launch} {G : GG} {b : Nat} {ad : Nat → Nat} {nt : Nat} {z : Nat → Nat} {m0 : Mem} {r9 : Int32} {m9 : Mem} (hf : X9_round nt z m0 = some (r9, m9)) : MtI l yX9_round cX9_round 1 (some .int) rmX9_round G b (sg ad nt z) m0 [.ref (ad 0)] (pEI r9 (sg ad nt z) m9) := by
  refine mtI_of (by decide) (Nat.le_of_ble_eq_true rfl) .int rfl (fun Γ hG X hnm hr => ?_)
  have hret : ∀ (pc : Nat) (lv : List (Nat × Value)), decode cX9_round pc = .ok (.ireturn, 1) → narrow .int (.int r9) = .int r9 → Go Γ b (sg ad nt z) 0 0 pc lv [.int r9] m9 := fun pc lv d hn => hr pc lv _ _ _ d ⟨rfl, rfl, rfl⟩ hn
  show Go Γ b (sg ad nt z) 0 0 0 [(0, .ref (ad 0))] [] m0
  refine g_aload_n X 0 dX9_round_0 rfl rfl ?_
  refine g_getr X (x := ad 5) 0 8 1 dX9_round_1 (sgN (by decide)) rfl (by decide) rfl iw_X9 (by decide) rfl q_fl_X9_19 rfl ?_
  refine g_getI X 5 0 1 dX9_round_4 (sgN (by decide)) rfl (by decide) rfl iw_X0 (by decide) rfl q_fl_X9_90 ?_
  refine g_sipush X (v := 999) dX9_round_7 (by decide) ?_
  refine g_icmp_lt X (tgt := 16) dX9_round_10 (by decide) (fun c10 => ?_) (fun c10 => ?_)
  · have hf := it c10 hf
    refine g_aload_n X 0 dX9_round_16 rfl rfl ?_
    refine g_getr X (x := ad 50) 0 8 8 dX9_round_17 (sgN (by decide)) rfl (by decide) rfl iw_X9 (by decide) rfl q_fl_X9_57 rfl ?_
    refine g_aload_n X 0 dX9_round_20 rfl rfl ?_
    refine g_getr X (x := ad 5) 0 8 1 dX9_round_21 (sgN (by decide)) rfl (by decide) rfl iw_X9 (by decide) rfl q_fl_X9_19 rfl ?_
    refine g_iconst X (v := 1) dX9_round_24 (by decide) ?_
    refine g_iconst X (v := -1) dX9_round_25 (by decide) ?_
    obtain ⟨r26, m26, h26, hf⟩ := bi_i hf
    refine g_eVI X 50 1 [.ref (ad 5), .int (1 : Int32), .int (-1 : Int32)] kV_X9_162 (c_X2_rounds (by unfold isF; decide) h26) dX9_round_26 rfl rfl (sgN (by decide)) rfl (by decide) rfl rfl ⟨(Nat.le_of_ble_eq_true rfl), (Nat.le_of_ble_eq_true rfl)⟩ ⟨rfl, rfl⟩ ⟨(Nat.zero_le _), (Nat.zero_le _)⟩ (Nat.le_of_ble_eq_true rfl) ?_
    obtain ⟨rfl, rfl⟩ := lf2 hf
    exact hret 29 _ dX9_round_29 rfl
  · have hf := ie c10 hf
    refine g_bipush X (v := -3) dX9_round_13 (by decide) ?_
    obtain ⟨rfl, rfl⟩ := lf2 hf
    exact hret 15 _ dX9_round_15 rfl

theorem kV_X9_166 : wcV RX9 166 RX0 yX0_become cX0_become 3 (none) 1 := ⟨q_ml_X9_166, q_im_yX0_become, q_se_yX0_become, q_in_X0, q_co_yX0_become, by decide +kernel⟩

theorem kV_X9_173 : wcV RX9 173 RX0 yX0_minutesOfAll cX0_minutesOfAll 3 (some .int) 0 := ⟨q_ml_X9_173, q_im_yX0_minutesOfAll, q_se_yX0_minutesOfAll, q_in_X0, q_co_yX0_minutesOfAll, by decide +kernel⟩

theorem kV_X9_170 : wcV RX9 170 RX0 yX0_ways cX0_ways 4 (some .int) 1 := ⟨q_ml_X9_170, q_im_yX0_ways, q_se_yX0_ways, q_in_X0, q_co_yX0_ways, by decide +kernel⟩

def X9_run_55 (nt : Nat) (z : Nat → Nat) (v1 : Int32) (v2 : Int32) (v3 : Int32) (m0 : Mem) : Option (Int32 × Mem) :=
  bv (X0_become 23 5 m0) fun m63 =>
  bi (X2_rounds nt z 23 v1 (-1 : Int32) m63) fun r76 m76 =>
  if v3 = 0 then
    if v2 = 0 then
      bi (X0_ways 23 (-1 : Int32) m76) fun r106 m106 =>
      some (r106, m106)
    else
      bi (X0_minutesOfAll 23 m76) fun r116 m116 =>
      bi (X0_minutesOfAll 5 m116) fun r123 m123 =>
      some (r116 - r123, m123)
  else
    if inn (v2 - (10 : Int32)) 6 then
    some (m76.1 27 (v2 - (10 : Int32)).toNatClampNeg, m76)
    else none
def X9_run_38 (nt : Nat) (z : Nat → Nat) (v1 : Int32) (v2 : Int32) (s0 : Int32) (m0 : Mem) : Option (Int32 × Mem) :=
  if v2 = 0 then
    X9_run_55 nt z v1 v2 s0 m0
  else
    if v2 = (1 : Int32) then
      X9_run_55 nt z v1 v2 s0 m0
    else
      if s0 = 0 then
        some ((-2 : Int32), m0)
      else
        X9_run_55 nt z v1 v2 s0 m0
def X9_run_37 (nt : Nat) (z : Nat → Nat) (v1 : Int32) (v2 : Int32) (m0 : Mem) : Option (Int32 × Mem) :=
  X9_run_38 nt z v1 v2 (0 : Int32) m0
def X9_run (nt : Nat) (z : Nat → Nat) (p0 : Int32) (p1 : Int32) (m0 : Mem) : Option (Int32 × Mem) :=
  if p0 < 0 then
    some ((-2 : Int32), m0)
  else
    if p0 ≤ (20 : Int32) then
      if p1 < (10 : Int32) then
        X9_run_37 nt z p0 p1 m0
      else
        if ((10 : Int32) + (m0.1 5 0)) ≤ p1 then
          X9_run_37 nt z p0 p1 m0
        else
          X9_run_38 nt z p0 p1 (1 : Int32) m0
    else
      some ((-2 : Int32), m0)
abbrev rmX9_run : Room := { frames := 6, cells := 0, slots := 0, locals := 172 }
set_option maxRecDepth 100000 in
set_option maxHeartbeats 4000000 in
theorem w_X9_run_55 {Γ : Ga} {b : Nat} {ad : Nat → Nat} {nt : Nat} {z : Nat → Nat} {r9 : Int32} {m9 : Mem} (X : Cx Γ b cX9_run 4 RX9 (some .int) rmX9_run) (hret : ∀ (pc : Nat) (lv : List (Nat × Value)), decode cX9_run pc = .ok (.ireturn, 1) → narrow .int (.int r9) = .int r9 → Go Γ b (sg ad nt z) 0 0 pc lv [.int r9] m9) (v1 : Int32) (v2 : Int32) (v3 : Int32) (m0 : Mem) (hf : X9_run_55 nt z v1 v2 v3 m0 = some (r9, m9)) : Go Γ b (sg ad nt z) 0 0 55 [(0, .ref (ad 0)), (1, .int v1), (2, .int v2), (3, .int v3)] [] m0 := by
  refine g_aload_n X 0 dX9_run_55 rfl rfl ?_
  refine g_getr X (x := ad 23) 0 8 5 dX9_run_56 (sgN (by decide)) rfl (by decide) rfl iw_X9 (by decide) rfl q_fl_X9_33 rfl ?_
  refine g_aload_n X 0 dX9_run_59 rfl rfl ?_
  refine g_getr X (x := ad 5) 0 8 1 dX9_run_60 (sgN (by decide)) rfl (by decide) rfl iw_X9 (by decide) rfl q_fl_X9_19 rfl ?_
  obtain ⟨m63, h63, hf⟩ := bv_i hf
  refine g_eVV X 23 0 [.ref (ad 5)] kV_X9_166 (c_X0_become (by unfold isF; decide) (by unfold isF; decide) h63) dX9_run_63 rfl rfl (sgN (by decide)) rfl (by decide) rfl rfl ⟨(Nat.le_of_ble_eq_true rfl), (Nat.le_of_ble_eq_true rfl)⟩ ⟨rfl, rfl⟩ ⟨(Nat.zero_le _), (Nat.zero_le _)⟩ (Nat.le_of_ble_eq_true rfl) ?_
  refine g_aload_n X 0 dX9_run_66 rfl rfl ?_
  refine g_getr X (x := ad 50) 0 8 8 dX9_run_67 (sgN (by decide)) rfl (by decide) rfl iw_X9 (by decide) rfl q_fl_X9_57 rfl ?_
  refine g_aload_n X 0 dX9_run_70 rfl rfl ?_
  refine g_getr X (x := ad 23) 0 8 5 dX9_run_71 (sgN (by decide)) rfl (by decide) rfl iw_X9 (by decide) rfl q_fl_X9_33 rfl ?_
  refine g_iload_n X 1 dX9_run_74 rfl rfl ?_
  refine g_iconst X (v := -1) dX9_run_75 (by decide) ?_
  obtain ⟨r76, m76, h76, hf⟩ := bi_i hf
  refine g_eVI X 50 1 [.ref (ad 23), .int v1, .int (-1 : Int32)] kV_X9_162 (c_X2_rounds (by unfold isF; decide) h76) dX9_run_76 rfl rfl (sgN (by decide)) rfl (by decide) rfl rfl ⟨(Nat.le_of_ble_eq_true rfl), (Nat.le_of_ble_eq_true rfl)⟩ ⟨rfl, rfl⟩ ⟨(Nat.zero_le _), (Nat.zero_le _)⟩ (Nat.le_of_ble_eq_true rfl) ?_
  refine g_pop X dX9_run_79 rfl ?_
  refine g_iload_n X 3 dX9_run_80 rfl rfl ?_
  refine g_if_eq X (tgt := 97) dX9_run_81 (by decide) (fun c81 => ?_) (fun c81 => ?_)
  · have hf := it c81 hf
    refine g_iload_n X 2 dX9_run_97 rfl rfl ?_
    refine g_if_ne X (tgt := 112) dX9_run_98 (by decide) (fun c98 => ?_) (fun c98 => ?_)
    · have hf := ie c98 hf
      refine g_aload_n X 0 dX9_run_112 rfl rfl ?_
      refine g_getr X (x := ad 23) 0 8 5 dX9_run_113 (sgN (by decide)) rfl (by decide) rfl iw_X9 (by decide) rfl q_fl_X9_33 rfl ?_
      obtain ⟨r116, m116, h116, hf⟩ := bi_i hf
      refine g_eVI X 23 0 [] kV_X9_173 (c_X0_minutesOfAll (by unfold isF; decide) h116) dX9_run_116 rfl rfl (sgN (by decide)) rfl (by decide) rfl rfl ⟨(Nat.le_of_ble_eq_true rfl), (Nat.le_of_ble_eq_true rfl)⟩ ⟨rfl, rfl⟩ ⟨(Nat.zero_le _), (Nat.zero_le _)⟩ (Nat.le_of_ble_eq_true rfl) ?_
      refine g_aload_n X 0 dX9_run_119 rfl rfl ?_
      refine g_getr X (x := ad 5) 0 8 1 dX9_run_120 (sgN (by decide)) rfl (by decide) rfl iw_X9 (by decide) rfl q_fl_X9_19 rfl ?_
      obtain ⟨r123, m123, h123, hf⟩ := bi_i hf
      refine g_eVI X 5 0 [] kV_X9_173 (c_X0_minutesOfAll (by unfold isF; decide) h123) dX9_run_123 rfl rfl (sgN (by decide)) rfl (by decide) rfl rfl ⟨(Nat.le_of_ble_eq_true rfl), (Nat.le_of_ble_eq_true rfl)⟩ ⟨rfl, rfl⟩ ⟨(Nat.zero_le _), (Nat.zero_le _)⟩ (Nat.le_of_ble_eq_true rfl) ?_
      refine g_isub X dX9_run_126 ?_
      obtain ⟨rfl, rfl⟩ := lf2 hf
      exact hret 127 _ dX9_run_127 rfl
    · have hf := it c98 hf
      refine g_aload_n X 0 dX9_run_101 rfl rfl ?_
      refine g_getr X (x := ad 23) 0 8 5 dX9_run_102 (sgN (by decide)) rfl (by decide) rfl iw_X9 (by decide) rfl q_fl_X9_33 rfl ?_
      refine g_iconst X (v := -1) dX9_run_105 (by decide) ?_
      obtain ⟨r106, m106, h106, hf⟩ := bi_i hf
      refine g_eVI X 23 0 [.int (-1 : Int32)] kV_X9_170 (c_X0_ways (by unfold isF; decide) h106) dX9_run_106 rfl rfl (sgN (by decide)) rfl (by decide) rfl rfl ⟨(Nat.le_of_ble_eq_true rfl), (Nat.le_of_ble_eq_true rfl)⟩ ⟨rfl, rfl⟩ ⟨(Nat.zero_le _), (Nat.zero_le _)⟩ (Nat.le_of_ble_eq_true rfl) ?_
      refine g_goto X (tgt := 127) dX9_run_109 (by decide) ?_
      obtain ⟨rfl, rfl⟩ := lf2 hf
      exact hret 127 _ dX9_run_127 rfl
  · have hf := ie c81 hf
    refine g_aload_n X 0 dX9_run_84 rfl rfl ?_
    refine g_getr X (x := ad 23) 0 8 5 dX9_run_85 (sgN (by decide)) rfl (by decide) rfl iw_X9 (by decide) rfl q_fl_X9_33 rfl ?_
    refine g_getr X (x := ad 27) 23 0 6 dX9_run_88 (sgN (by decide)) rfl (by decide) rfl iw_X0 (by decide) rfl q_fl_X9_119 rfl ?_
    refine g_iload_n X 2 dX9_run_91 rfl rfl ?_
    refine g_bipush X (v := 10) dX9_run_92 (by decide) ?_
    refine g_isub X dX9_run_94 ?_
    obtain ⟨h95, hf⟩ := grd hf
    refine g_iald X 27 (n := 6) dX9_run_95 (sgN (by decide)) rfl rfl h95 ?_
    obtain ⟨rfl, rfl⟩ := lf2 hf
    exact hret 96 _ dX9_run_96 rfl
set_option maxRecDepth 100000 in
set_option maxHeartbeats 4000000 in
theorem w_X9_run_38 {Γ : Ga} {b : Nat} {ad : Nat → Nat} {nt : Nat} {z : Nat → Nat} {r9 : Int32} {m9 : Mem} (X : Cx Γ b cX9_run 4 RX9 (some .int) rmX9_run) (hret : ∀ (pc : Nat) (lv : List (Nat × Value)), decode cX9_run pc = .ok (.ireturn, 1) → narrow .int (.int r9) = .int r9 → Go Γ b (sg ad nt z) 0 0 pc lv [.int r9] m9) (v1 : Int32) (v2 : Int32) (s0 : Int32) (m0 : Mem) (hf : X9_run_38 nt z v1 v2 s0 m0 = some (r9, m9)) : Go Γ b (sg ad nt z) 0 0 38 [(0, .ref (ad 0)), (1, .int v1), (2, .int v2)] [.int s0] m0 := by
  refine g_istore_n X (lv' := [(3, .int s0), (0, .ref (ad 0)), (1, .int v1), (2, .int v2)]) dX9_run_38 rfl (by decide) rfl ?_
  refine g_iload_n X 3 dX9_run_39 rfl rfl ?_
  refine g_if_eq X (tgt := 55) dX9_run_40 (by decide) (fun c40 => ?_) (fun c40 => ?_)
  · have hf := it c40 hf
    refine g_pick [1, 2, 3, 0] (lv' := [(0, .ref (ad 0)), (1, .int v1), (2, .int v2), (3, .int s0)]) rfl ?_
    exact w_X9_run_55 X hret v1 v2 s0 m0 hf
  · have hf := ie c40 hf
    refine g_iload_n X 3 dX9_run_43 rfl rfl ?_
    refine g_iconst X (v := 1) dX9_run_44 (by decide) ?_
    refine g_icmp_eq X (tgt := 55) dX9_run_45 (by decide) (fun c45 => ?_) (fun c45 => ?_)
    · have hf := it c45 hf
      refine g_pick [1, 2, 3, 0] (lv' := [(0, .ref (ad 0)), (1, .int v1), (2, .int v2), (3, .int s0)]) rfl ?_
      exact w_X9_run_55 X hret v1 v2 s0 m0 hf
    · have hf := ie c45 hf
      refine g_iload_n X 0 dX9_run_48 rfl rfl ?_
      refine g_if_ne X (tgt := 55) dX9_run_49 (by decide) (fun c49 => ?_) (fun c49 => ?_)
      · have hf := ie c49 hf
        refine g_pick [1, 2, 3, 0] (lv' := [(0, .ref (ad 0)), (1, .int v1), (2, .int v2), (3, .int s0)]) rfl ?_
        exact w_X9_run_55 X hret v1 v2 s0 m0 hf
      · have hf := it c49 hf
        refine g_bipush X (v := -2) dX9_run_52 (by decide) ?_
        obtain ⟨rfl, rfl⟩ := lf2 hf
        exact hret 54 _ dX9_run_54 rfl
set_option maxRecDepth 100000 in
set_option maxHeartbeats 4000000 in
theorem w_X9_run_37 {Γ : Ga} {b : Nat} {ad : Nat → Nat} {nt : Nat} {z : Nat → Nat} {r9 : Int32} {m9 : Mem} (X : Cx Γ b cX9_run 4 RX9 (some .int) rmX9_run) (hret : ∀ (pc : Nat) (lv : List (Nat × Value)), decode cX9_run pc = .ok (.ireturn, 1) → narrow .int (.int r9) = .int r9 → Go Γ b (sg ad nt z) 0 0 pc lv [.int r9] m9) (v1 : Int32) (v2 : Int32) (m0 : Mem) (hf : X9_run_37 nt z v1 v2 m0 = some (r9, m9)) : Go Γ b (sg ad nt z) 0 0 37 [(0, .ref (ad 0)), (1, .int v1), (2, .int v2)] [] m0 := by
  refine g_iconst X (v := 0) dX9_run_37 (by decide) ?_
  exact w_X9_run_38 X hret v1 v2 (0 : Int32) m0 hf
set_option maxRecDepth 100000 in
set_option maxHeartbeats 4000000 in
theorem c_X9_run {l : Launch} {G : GG} {b : Nat} {ad : Nat → Nat} {nt : Nat} {z : Nat → Nat} {p0 : Int32} {p1 : Int32} {m0 : Mem} {r9 : Int32} {m9 : Mem} (hf : X9_run nt z p0 p1 m0 = some (r9, m9)) : MtI l yX9_run cX9_run 4 (some .int) rmX9_run G b (sg ad nt z) m0 [.ref (ad 0), .int p0, .int p1] (pEI r9 (sg ad nt z) m9) := by
  refine mtI_of (by decide) (Nat.le_of_ble_eq_true rfl) .int rfl (fun Γ hG X hnm hr => ?_)
  have hret : ∀ (pc : Nat) (lv : List (Nat × Value)), decode cX9_run pc = .ok (.ireturn, 1) → narrow .int (.int r9) = .int r9 → Go Γ b (sg ad nt z) 0 0 pc lv [.int r9] m9 := fun pc lv d hn => hr pc lv _ _ _ d ⟨rfl, rfl, rfl⟩ hn
  show Go Γ b (sg ad nt z) 0 0 0 [(0, .ref (ad 0)), (1, .int p0), (2, .int p1)] [] m0
  refine g_iload_n X 1 dX9_run_0 rfl rfl ?_
  refine g_if_lt X (tgt := 10) dX9_run_1 (by decide) (fun c1 => ?_) (fun c1 => ?_)
  · have hf := it c1 hf
    refine g_bipush X (v := -2) dX9_run_10 (by decide) ?_
    obtain ⟨rfl, rfl⟩ := lf2 hf
    exact hret 12 _ dX9_run_12 rfl
  · have hf := ie c1 hf
    refine g_iload_n X 1 dX9_run_4 rfl rfl ?_
    refine g_bipush X (v := 20) dX9_run_5 (by decide) ?_
    refine g_icmp_le X (tgt := 13) dX9_run_7 (by decide) (fun c7 => ?_) (fun c7 => ?_)
    · have hf := it c7 hf
      refine g_iload_n X 2 dX9_run_13 rfl rfl ?_
      refine g_bipush X (v := 10) dX9_run_14 (by decide) ?_
      refine g_icmp_lt X (tgt := 37) dX9_run_16 (by decide) (fun c16 => ?_) (fun c16 => ?_)
      · have hf := it c16 hf
        exact w_X9_run_37 X hret p0 p1 m0 hf
      · have hf := ie c16 hf
        refine g_iload_n X 2 dX9_run_19 rfl rfl ?_
        refine g_bipush X (v := 10) dX9_run_20 (by decide) ?_
        refine g_aload_n X 0 dX9_run_22 rfl rfl ?_
        refine g_getr X (x := ad 5) 0 8 1 dX9_run_23 (sgN (by decide)) rfl (by decide) rfl iw_X9 (by decide) rfl q_fl_X9_19 rfl ?_
        refine g_getI X 5 0 0 dX9_run_26 (sgN (by decide)) rfl (by decide) rfl iw_X0 (by decide) rfl q_fl_X9_165 ?_
        refine g_iadd X dX9_run_29 ?_
        refine g_icmp_ge X (tgt := 37) dX9_run_30 (by decide) (fun c30 => ?_) (fun c30 => ?_)
        · have hf := it c30 hf
          exact w_X9_run_37 X hret p0 p1 m0 hf
        · have hf := ie c30 hf
          refine g_iconst X (v := 1) dX9_run_33 (by decide) ?_
          refine g_goto X (tgt := 38) dX9_run_34 (by decide) ?_
          exact w_X9_run_38 X hret p0 p1 (1 : Int32) m0 hf
    · have hf := ie c7 hf
      refine g_bipush X (v := -2) dX9_run_10 (by decide) ?_
      obtain ⟨rfl, rfl⟩ := lf2 hf
      exact hret 12 _ dX9_run_12 rfl

theorem kV_X9_177 : wcV RX9 177 RX0 yX0_knownByAny cX0_knownByAny 4 (some .int) 1 := ⟨q_ml_X9_177, q_im_yX0_knownByAny, q_se_yX0_knownByAny, q_in_X0, q_co_yX0_knownByAny, by decide +kernel⟩

theorem kV_X9_180 : wcV RX9 180 RX0 yX0_knownByAll cX0_knownByAll 3 (some .int) 0 := ⟨q_ml_X9_180, q_im_yX0_knownByAll, q_se_yX0_knownByAll, q_in_X0, q_co_yX0_knownByAll, by decide +kernel⟩

def X9_all (nt : Nat) (z : Nat → Nat) (p0 : Int32) (m0 : Mem) : Option (Int32 × Mem) :=
  if p0 = (0 : Int32) then
    bi (X0_ways 5 (-1 : Int32) m0) fun r37 m37 =>
    some (r37, m37)
  else
    if p0 = (1 : Int32) then
      bi (X0_knownByAny 5 (-1 : Int32) m0) fun r46 m46 =>
      some (r46, m46)
    else
      if p0 = (2 : Int32) then
        bi (X0_knownByAll 5 m0) fun r54 m54 =>
        some (r54, m54)
      else
        if p0 = (3 : Int32) then
          bv (X0_become 23 5 m0) fun m66 =>
          bi (X2_rounds nt z 23 (1 : Int32) (-1 : Int32) m66) fun r79 m79 =>
          if r79 = 0 then
            some ((1 : Int32), m79)
          else
            some ((0 : Int32), m79)
        else
          some ((-2 : Int32), m0)
abbrev rmX9_all : Room := { frames := 6, cells := 0, slots := 0, locals := 172 }

set_option maxRecDepth 100000 in
set_option maxHeartbeats 4000000 in
theorem c_X9_all {l : Launch} {G : GG} {b : Nat} {ad : Nat → Nat} {nt : Nat} {z : Nat → Nat} {p0 : Int32} {m0 : Mem} {r9 : Int32} {m9 : Mem} (hf : X9_all nt z p0 m0 = some (r9, m9)) : MtI l yX9_all cX9_all 2 (some .int) rmX9_all G b (sg ad nt z) m0 [.ref (ad 0), .int p0] (pEI r9 (sg ad nt z) m9) := by
  refine mtI_of (by decide) (Nat.le_of_ble_eq_true rfl) .int rfl (fun Γ hG X hnm hr => ?_)
  have hret : ∀ (pc : Nat) (lv : List (Nat × Value)), decode cX9_all pc = .ok (.ireturn, 1) → narrow .int (.int r9) = .int r9 → Go Γ b (sg ad nt z) 0 0 pc lv [.int r9] m9 := fun pc lv d hn => hr pc lv _ _ _ d ⟨rfl, rfl, rfl⟩ hn
  show Go Γ b (sg ad nt z) 0 0 0 [(0, .ref (ad 0)), (1, .int p0)] [] m0
  refine g_iload_n X 1 dX9_all_0 rfl rfl ?_
  by_cases c1_0 : p0 = (0 : Int32)
  · have hf := it c1_0 hf
    refine g_tblIn X (tgt := 32) dX9_all_1 (by rw [c1_0]; decide) (by rw [c1_0]; decide) (off := 31) (by rw [c1_0]; rfl) (by decide) ?_
    refine g_aload_n X 0 dX9_all_32 rfl rfl ?_
    refine g_getr X (x := ad 5) 0 8 1 dX9_all_33 (sgN (by decide)) rfl (by decide) rfl iw_X9 (by decide) rfl q_fl_X9_19 rfl ?_
    refine g_iconst X (v := -1) dX9_all_36 (by decide) ?_
    obtain ⟨r37, m37, h37, hf⟩ := bi_i hf
    refine g_eVI X 5 0 [.int (-1 : Int32)] kV_X9_170 (c_X0_ways (by unfold isF; decide) h37) dX9_all_37 rfl rfl (sgN (by decide)) rfl (by decide) rfl rfl ⟨(Nat.le_of_ble_eq_true rfl), (Nat.le_of_ble_eq_true rfl)⟩ ⟨rfl, rfl⟩ ⟨(Nat.zero_le _), (Nat.zero_le _)⟩ (Nat.le_of_ble_eq_true rfl) ?_
    obtain ⟨rfl, rfl⟩ := lf2 hf
    exact hret 40 _ dX9_all_40 rfl
  · have hf := ie c1_0 hf
    by_cases c1_1 : p0 = (1 : Int32)
    · have hf := it c1_1 hf
      refine g_tblIn X (tgt := 41) dX9_all_1 (by rw [c1_1]; decide) (by rw [c1_1]; decide) (off := 40) (by rw [c1_1]; rfl) (by decide) ?_
      refine g_aload_n X 0 dX9_all_41 rfl rfl ?_
      refine g_getr X (x := ad 5) 0 8 1 dX9_all_42 (sgN (by decide)) rfl (by decide) rfl iw_X9 (by decide) rfl q_fl_X9_19 rfl ?_
      refine g_iconst X (v := -1) dX9_all_45 (by decide) ?_
      obtain ⟨r46, m46, h46, hf⟩ := bi_i hf
      refine g_eVI X 5 0 [.int (-1 : Int32)] kV_X9_177 (c_X0_knownByAny (by unfold isF; decide) h46) dX9_all_46 rfl rfl (sgN (by decide)) rfl (by decide) rfl rfl ⟨(Nat.le_of_ble_eq_true rfl), (Nat.le_of_ble_eq_true rfl)⟩ ⟨rfl, rfl⟩ ⟨(Nat.zero_le _), (Nat.zero_le _)⟩ (Nat.le_of_ble_eq_true rfl) ?_
      obtain ⟨rfl, rfl⟩ := lf2 hf
      exact hret 49 _ dX9_all_49 rfl
    · have hf := ie c1_1 hf
      by_cases c1_2 : p0 = (2 : Int32)
      · have hf := it c1_2 hf
        refine g_tblIn X (tgt := 50) dX9_all_1 (by rw [c1_2]; decide) (by rw [c1_2]; decide) (off := 49) (by rw [c1_2]; rfl) (by decide) ?_
        refine g_aload_n X 0 dX9_all_50 rfl rfl ?_
        refine g_getr X (x := ad 5) 0 8 1 dX9_all_51 (sgN (by decide)) rfl (by decide) rfl iw_X9 (by decide) rfl q_fl_X9_19 rfl ?_
        obtain ⟨r54, m54, h54, hf⟩ := bi_i hf
        refine g_eVI X 5 0 [] kV_X9_180 (c_X0_knownByAll (by unfold isF; decide) h54) dX9_all_54 rfl rfl (sgN (by decide)) rfl (by decide) rfl rfl ⟨(Nat.le_of_ble_eq_true rfl), (Nat.le_of_ble_eq_true rfl)⟩ ⟨rfl, rfl⟩ ⟨(Nat.zero_le _), (Nat.zero_le _)⟩ (Nat.le_of_ble_eq_true rfl) ?_
        obtain ⟨rfl, rfl⟩ := lf2 hf
        exact hret 57 _ dX9_all_57 rfl
      · have hf := ie c1_2 hf
        by_cases c1_3 : p0 = (3 : Int32)
        · have hf := it c1_3 hf
          refine g_tblIn X (tgt := 58) dX9_all_1 (by rw [c1_3]; decide) (by rw [c1_3]; decide) (off := 57) (by rw [c1_3]; rfl) (by decide) ?_
          refine g_aload_n X 0 dX9_all_58 rfl rfl ?_
          refine g_getr X (x := ad 23) 0 8 5 dX9_all_59 (sgN (by decide)) rfl (by decide) rfl iw_X9 (by decide) rfl q_fl_X9_33 rfl ?_
          refine g_aload_n X 0 dX9_all_62 rfl rfl ?_
          refine g_getr X (x := ad 5) 0 8 1 dX9_all_63 (sgN (by decide)) rfl (by decide) rfl iw_X9 (by decide) rfl q_fl_X9_19 rfl ?_
          obtain ⟨m66, h66, hf⟩ := bv_i hf
          refine g_eVV X 23 0 [.ref (ad 5)] kV_X9_166 (c_X0_become (by unfold isF; decide) (by unfold isF; decide) h66) dX9_all_66 rfl rfl (sgN (by decide)) rfl (by decide) rfl rfl ⟨(Nat.le_of_ble_eq_true rfl), (Nat.le_of_ble_eq_true rfl)⟩ ⟨rfl, rfl⟩ ⟨(Nat.zero_le _), (Nat.zero_le _)⟩ (Nat.le_of_ble_eq_true rfl) ?_
          refine g_aload_n X 0 dX9_all_69 rfl rfl ?_
          refine g_getr X (x := ad 50) 0 8 8 dX9_all_70 (sgN (by decide)) rfl (by decide) rfl iw_X9 (by decide) rfl q_fl_X9_57 rfl ?_
          refine g_aload_n X 0 dX9_all_73 rfl rfl ?_
          refine g_getr X (x := ad 23) 0 8 5 dX9_all_74 (sgN (by decide)) rfl (by decide) rfl iw_X9 (by decide) rfl q_fl_X9_33 rfl ?_
          refine g_iconst X (v := 1) dX9_all_77 (by decide) ?_
          refine g_iconst X (v := -1) dX9_all_78 (by decide) ?_
          obtain ⟨r79, m79, h79, hf⟩ := bi_i hf
          refine g_eVI X 50 1 [.ref (ad 23), .int (1 : Int32), .int (-1 : Int32)] kV_X9_162 (c_X2_rounds (by unfold isF; decide) h79) dX9_all_79 rfl rfl (sgN (by decide)) rfl (by decide) rfl rfl ⟨(Nat.le_of_ble_eq_true rfl), (Nat.le_of_ble_eq_true rfl)⟩ ⟨rfl, rfl⟩ ⟨(Nat.zero_le _), (Nat.zero_le _)⟩ (Nat.le_of_ble_eq_true rfl) ?_
          refine g_if_ne X (tgt := 89) dX9_all_82 (by decide) (fun c82 => ?_) (fun c82 => ?_)
          · have hf := ie c82 hf
            refine g_iconst X (v := 0) dX9_all_89 (by decide) ?_
            obtain ⟨rfl, rfl⟩ := lf2 hf
            exact hret 90 _ dX9_all_90 rfl
          · have hf := it c82 hf
            refine g_iconst X (v := 1) dX9_all_85 (by decide) ?_
            refine g_goto X (tgt := 90) dX9_all_86 (by decide) ?_
            obtain ⟨rfl, rfl⟩ := lf2 hf
            exact hret 90 _ dX9_all_90 rfl
        · have hf := ie c1_3 hf
          refine g_tblOut X (tgt := 91) dX9_all_1 (by have g0 := lv_neT (a := 0) c1_0 rfl; have g1 := lv_neT (a := 1) c1_1 rfl; have g2 := lv_neT (a := 2) c1_2 rfl; have g3 := lv_neT (a := 3) c1_3 rfl; omega) (by decide) ?_
          refine g_bipush X (v := -2) dX9_all_91 (by decide) ?_
          obtain ⟨rfl, rfl⟩ := lf2 hf
          exact hret 93 _ dX9_all_93 rfl

theorem kV_X9_183 : wcV RX9 183 RX0 yX0_isKnown cX0_isKnown 3 (some .boolean) 2 := ⟨q_ml_X9_183, q_im_yX0_isKnown, q_se_yX0_isKnown, q_in_X0, q_co_yX0_isKnown, by decide +kernel⟩

theorem kV_X9_187 : wcV RX9 187 RX2 yX2_restsForGood cX2_restsForGood 2 (some .boolean) 1 := ⟨q_ml_X9_187, q_im_yX2_restsForGood, q_se_yX2_restsForGood, q_in_X2, q_co_yX2_restsForGood, by decide +kernel⟩

def X9_soon_87 (nt : Nat) (z : Nat → Nat) (k31 : Int32 → Int32 → Int32 → Mem → Option (Int32 × Mem)) (v1 : Int32) (v2 : Int32) (v3 : Int32) (m0 : Mem) : Option (Int32 × Mem) :=
  k31 v1 v2 (v3 + (1 : Int32)) m0
def X9_soon_31 (nt : Nat) (z : Nat → Nat) : Nat → Int32 → Int32 → Int32 → Mem → Option (Int32 × Mem)
  | 0, _, _, _, _ => none
  | n + 1, v1, v2, v3, m0 =>
    if (20 : Int32) ≤ v3 then
      bi (X0_isKnown 23 v1 v2 m0) fun r99 m99 =>
      if r99 = 0 then
        some ((-1 : Int32), m99)
      else
        some ((20 : Int32), m99)
    else
      bi (X0_isKnown 23 v1 v2 m0) fun r43 m43 =>
      if r43 = 0 then
        bi (X2_rounds nt z 23 (1 : Int32) (-1 : Int32) m43) fun r61 m61 =>
        if r61 = 0 then
          bi (X2_restsForGood nt z 23 m61) fun r79 m79 =>
          if r79 = 0 then
            X9_soon_87 nt z (X9_soon_31 nt z n) v1 v2 v3 m79
          else
            some ((-1 : Int32), m79)
        else
          X9_soon_87 nt z (X9_soon_31 nt z n) v1 v2 v3 m61
      else
        some (v3, m43)
def X9_soon (nt : Nat) (z : Nat → Nat) (p0 : Int32) (p1 : Int32) (m0 : Mem) : Option (Int32 × Mem) :=
  bi (X9_isPerson p0 m0) fun r2 m2 =>
  if r2 = 0 then
    some ((-2 : Int32), m2)
  else
    bi (X9_isPlace p1 m2) fun r9 m9 =>
    if r9 = 0 then
      some ((-2 : Int32), m9)
    else
      bv (X0_become 23 5 m9) fun m26 =>
      X9_soon_31 nt z 10000 p0 p1 (0 : Int32) m26
abbrev rmX9_soon : Room := { frames := 6, cells := 0, slots := 0, locals := 172 }
set_option maxRecDepth 100000 in
set_option maxHeartbeats 4000000 in
theorem w_X9_soon_87 {Γ : Ga} {b : Nat} {ad : Nat → Nat} {nt : Nat} {z : Nat → Nat} {k31 : Int32 → Int32 → Int32 → Mem → Option (Int32 × Mem)} {r9 : Int32} {m9 : Mem} (X : Cx Γ b cX9_soon 5 RX9 (some .int) rmX9_soon) (hret : ∀ (pc : Nat) (lv : List (Nat × Value)), decode cX9_soon pc = .ok (.ireturn, 1) → narrow .int (.int r9) = .int r9 → Go Γ b (sg ad nt z) 0 0 pc lv [.int r9] m9) (hk31 : ∀ (v1 : Int32) (v2 : Int32) (v3 : Int32) (m0 : Mem), k31 v1 v2 v3 m0 = some (r9, m9) → Go Γ b (sg ad nt z) 0 0 31 [(0, .ref (ad 0)), (1, .int v1), (2, .int v2), (3, .int v3)] [] m0) (v1 : Int32) (v2 : Int32) (v3 : Int32) (m0 : Mem) (hf : X9_soon_87 nt z k31 v1 v2 v3 m0 = some (r9, m9)) : Go Γ b (sg ad nt z) 0 0 87 [(0, .ref (ad 0)), (1, .int v1), (2, .int v2), (3, .int v3)] [] m0 := by
  refine g_iinc X 3 (v := v3 + (1 : Int32)) (lv' := [(3, .int (v3 + (1 : Int32))), (0, .ref (ad 0)), (1, .int v1), (2, .int v2)]) dX9_soon_87 rfl rfl (by decide) rfl ?_
  refine g_goto X (tgt := 31) dX9_soon_90 (by decide) ?_
  refine g_pick [1, 2, 3, 0] (lv' := [(0, .ref (ad 0)), (1, .int v1), (2, .int v2), (3, .int (v3 + (1 : Int32)))]) rfl ?_
  exact hk31 v1 v2 (v3 + (1 : Int32)) m0 hf
set_option maxRecDepth 100000 in
set_option maxHeartbeats 4000000 in
theorem w_X9_soon_31 {Γ : Ga} {b : Nat} {ad : Nat → Nat} {nt : Nat} {z : Nat → Nat} {r9 : Int32} {m9 : Mem} (X : Cx Γ b cX9_soon 5 RX9 (some .int) rmX9_soon) (hret : ∀ (pc : Nat) (lv : List (Nat × Value)), decode cX9_soon pc = .ok (.ireturn, 1) → narrow .int (.int r9) = .int r9 → Go Γ b (sg ad nt z) 0 0 pc lv [.int r9] m9) : ∀ (n : Nat) (v1 : Int32) (v2 : Int32) (v3 : Int32) (m0 : Mem), X9_soon_31 nt z n v1 v2 v3 m0 = some (r9, m9) → Go Γ b (sg ad nt z) 0 0 31 [(0, .ref (ad 0)), (1, .int v1), (2, .int v2), (3, .int v3)] [] m0 := by
  intro n
  induction n with
  | zero =>
    intro v1 v2 v3 m0 hf
    cases hf
  | succ n ih =>
    intro v1 v2 v3 m0 hf
    refine g_iload_n X 3 dX9_soon_31 rfl rfl ?_
    refine g_bipush X (v := 20) dX9_soon_32 (by decide) ?_
    refine g_icmp_ge X (tgt := 93) dX9_soon_34 (by decide) (fun c34 => ?_) (fun c34 => ?_)
    · have hf := it c34 hf
      refine g_aload_n X 0 dX9_soon_93 rfl rfl ?_
      refine g_getr X (x := ad 23) 0 8 5 dX9_soon_94 (sgN (by decide)) rfl (by decide) rfl iw_X9 (by decide) rfl q_fl_X9_33 rfl ?_
      refine g_iload_n X 1 dX9_soon_97 rfl rfl ?_
      refine g_iload_n X 2 dX9_soon_98 rfl rfl ?_
      obtain ⟨r99, m99, h99, hf⟩ := bi_i hf
      refine g_eVI X 23 0 [.int v1, .int v2] kV_X9_183 (c_X0_isKnown (by unfold isF; decide) h99) dX9_soon_99 rfl rfl (sgN (by decide)) rfl (by decide) rfl rfl ⟨(Nat.le_of_ble_eq_true rfl), (Nat.le_of_ble_eq_true rfl)⟩ ⟨rfl, rfl⟩ ⟨(Nat.zero_le _), (Nat.zero_le _)⟩ (Nat.le_of_ble_eq_true rfl) ?_
      refine g_if_eq X (tgt := 110) dX9_soon_102 (by decide) (fun c102 => ?_) (fun c102 => ?_)
      · have hf := it c102 hf
        refine g_iconst X (v := -1) dX9_soon_110 (by decide) ?_
        obtain ⟨rfl, rfl⟩ := lf2 hf
        exact hret 111 _ dX9_soon_111 rfl
      · have hf := ie c102 hf
        refine g_bipush X (v := 20) dX9_soon_105 (by decide) ?_
        refine g_goto X (tgt := 111) dX9_soon_107 (by decide) ?_
        obtain ⟨rfl, rfl⟩ := lf2 hf
        exact hret 111 _ dX9_soon_111 rfl
    · have hf := ie c34 hf
      refine g_aload_n X 0 dX9_soon_37 rfl rfl ?_
      refine g_getr X (x := ad 23) 0 8 5 dX9_soon_38 (sgN (by decide)) rfl (by decide) rfl iw_X9 (by decide) rfl q_fl_X9_33 rfl ?_
      refine g_iload_n X 1 dX9_soon_41 rfl rfl ?_
      refine g_iload_n X 2 dX9_soon_42 rfl rfl ?_
      obtain ⟨r43, m43, h43, hf⟩ := bi_i hf
      refine g_eVI X 23 0 [.int v1, .int v2] kV_X9_183 (c_X0_isKnown (by unfold isF; decide) h43) dX9_soon_43 rfl rfl (sgN (by decide)) rfl (by decide) rfl rfl ⟨(Nat.le_of_ble_eq_true rfl), (Nat.le_of_ble_eq_true rfl)⟩ ⟨rfl, rfl⟩ ⟨(Nat.zero_le _), (Nat.zero_le _)⟩ (Nat.le_of_ble_eq_true rfl) ?_
      refine g_if_eq X (tgt := 51) dX9_soon_46 (by decide) (fun c46 => ?_) (fun c46 => ?_)
      · have hf := it c46 hf
        refine g_aload_n X 0 dX9_soon_51 rfl rfl ?_
        refine g_getr X (x := ad 50) 0 8 8 dX9_soon_52 (sgN (by decide)) rfl (by decide) rfl iw_X9 (by decide) rfl q_fl_X9_57 rfl ?_
        refine g_aload_n X 0 dX9_soon_55 rfl rfl ?_
        refine g_getr X (x := ad 23) 0 8 5 dX9_soon_56 (sgN (by decide)) rfl (by decide) rfl iw_X9 (by decide) rfl q_fl_X9_33 rfl ?_
        refine g_iconst X (v := 1) dX9_soon_59 (by decide) ?_
        refine g_iconst X (v := -1) dX9_soon_60 (by decide) ?_
        obtain ⟨r61, m61, h61, hf⟩ := bi_i hf
        refine g_eVI X 50 1 [.ref (ad 23), .int (1 : Int32), .int (-1 : Int32)] kV_X9_162 (c_X2_rounds (by unfold isF; decide) h61) dX9_soon_61 rfl rfl (sgN (by decide)) rfl (by decide) rfl rfl ⟨(Nat.le_of_ble_eq_true rfl), (Nat.le_of_ble_eq_true rfl)⟩ ⟨rfl, rfl⟩ ⟨(Nat.zero_le _), (Nat.zero_le _)⟩ (Nat.le_of_ble_eq_true rfl) ?_
        refine g_istore X (lv' := [(4, .int r61), (0, .ref (ad 0)), (1, .int v1), (2, .int v2), (3, .int v3)]) dX9_soon_64 (by decide) rfl ?_
        refine g_iload X 0 dX9_soon_66 rfl ?_
        refine g_if_ne X (tgt := 87) dX9_soon_68 (by decide) (fun c68 => ?_) (fun c68 => ?_)
        · have hf := ie c68 hf
          refine g_pick [1, 2, 3, 4] (lv' := [(0, .ref (ad 0)), (1, .int v1), (2, .int v2), (3, .int v3)]) rfl ?_
          exact w_X9_soon_87 X hret ih v1 v2 v3 m61 hf
        · have hf := it c68 hf
          refine g_aload_n X 1 dX9_soon_71 rfl rfl ?_
          refine g_getr X (x := ad 50) 0 8 8 dX9_soon_72 (sgN (by decide)) rfl (by decide) rfl iw_X9 (by decide) rfl q_fl_X9_57 rfl ?_
          refine g_aload_n X 1 dX9_soon_75 rfl rfl ?_
          refine g_getr X (x := ad 23) 0 8 5 dX9_soon_76 (sgN (by decide)) rfl (by decide) rfl iw_X9 (by decide) rfl q_fl_X9_33 rfl ?_
          obtain ⟨r79, m79, h79, hf⟩ := bi_i hf
          refine g_eVI X 50 1 [.ref (ad 23)] kV_X9_187 (c_X2_restsForGood (by unfold isF; decide) h79) dX9_soon_79 rfl rfl (sgN (by decide)) rfl (by decide) rfl rfl ⟨(Nat.le_of_ble_eq_true rfl), (Nat.le_of_ble_eq_true rfl)⟩ ⟨rfl, rfl⟩ ⟨(Nat.zero_le _), (Nat.zero_le _)⟩ (Nat.le_of_ble_eq_true rfl) ?_
          refine g_if_eq X (tgt := 87) dX9_soon_82 (by decide) (fun c82 => ?_) (fun c82 => ?_)
          · have hf := it c82 hf
            refine g_pick [1, 2, 3, 4] (lv' := [(0, .ref (ad 0)), (1, .int v1), (2, .int v2), (3, .int v3)]) rfl ?_
            exact w_X9_soon_87 X hret ih v1 v2 v3 m79 hf
          · have hf := ie c82 hf
            refine g_iconst X (v := -1) dX9_soon_85 (by decide) ?_
            obtain ⟨rfl, rfl⟩ := lf2 hf
            exact hret 86 _ dX9_soon_86 rfl
      · have hf := ie c46 hf
        refine g_iload_n X 3 dX9_soon_49 rfl rfl ?_
        obtain ⟨rfl, rfl⟩ := lf2 hf
        exact hret 50 _ dX9_soon_50 rfl
set_option maxRecDepth 100000 in
set_option maxHeartbeats 4000000 in
theorem c_X9_soon {l : Launch} {G : GG} {b : Nat} {ad : Nat → Nat} {nt : Nat} {z : Nat → Nat} {p0 : Int32} {p1 : Int32} {m0 : Mem} {r9 : Int32} {m9 : Mem} (hf : X9_soon nt z p0 p1 m0 = some (r9, m9)) : MtI l yX9_soon cX9_soon 5 (some .int) rmX9_soon G b (sg ad nt z) m0 [.ref (ad 0), .int p0, .int p1] (pEI r9 (sg ad nt z) m9) := by
  refine mtI_of (by decide) (Nat.le_of_ble_eq_true rfl) .int rfl (fun Γ hG X hnm hr => ?_)
  have hret : ∀ (pc : Nat) (lv : List (Nat × Value)), decode cX9_soon pc = .ok (.ireturn, 1) → narrow .int (.int r9) = .int r9 → Go Γ b (sg ad nt z) 0 0 pc lv [.int r9] m9 := fun pc lv d hn => hr pc lv _ _ _ d ⟨rfl, rfl, rfl⟩ hn
  show Go Γ b (sg ad nt z) 0 0 0 [(0, .ref (ad 0)), (1, .int p0), (2, .int p1)] [] m0
  refine g_aload_n X 0 dX9_soon_0 rfl rfl ?_
  refine g_iload_n X 1 dX9_soon_1 rfl rfl ?_
  obtain ⟨r2, m2, h2, hf⟩ := bi_i hf
  refine g_eVI X 0 8 [.int p0] kV_X9_86 (c_X9_isPerson h2) dX9_soon_2 rfl rfl (sgN (by decide)) rfl (by decide) rfl rfl ⟨(Nat.le_of_ble_eq_true rfl), (Nat.le_of_ble_eq_true rfl)⟩ ⟨rfl, rfl⟩ ⟨(Nat.zero_le _), (Nat.zero_le _)⟩ (Nat.le_of_ble_eq_true rfl) ?_
  refine g_if_eq X (tgt := 15) dX9_soon_5 (by decide) (fun c5 => ?_) (fun c5 => ?_)
  · have hf := it c5 hf
    refine g_bipush X (v := -2) dX9_soon_15 (by decide) ?_
    obtain ⟨rfl, rfl⟩ := lf2 hf
    exact hret 17 _ dX9_soon_17 rfl
  · have hf := ie c5 hf
    refine g_iload_n X 2 dX9_soon_8 rfl rfl ?_
    obtain ⟨r9, m9, h9, hf⟩ := bi_i hf
    refine g_eSI X [.int p1] kS_X9_98 (c_X9_isPlace h9) dX9_soon_9 rfl rfl ⟨(Nat.le_of_ble_eq_true rfl), (Nat.le_of_ble_eq_true rfl)⟩ ⟨rfl, rfl⟩ ⟨(Nat.zero_le _), (Nat.zero_le _)⟩ (Nat.le_of_ble_eq_true rfl) ?_
    refine g_if_ne X (tgt := 18) dX9_soon_12 (by decide) (fun c12 => ?_) (fun c12 => ?_)
    · have hf := ie c12 hf
      refine g_aload_n X 0 dX9_soon_18 rfl rfl ?_
      refine g_getr X (x := ad 23) 0 8 5 dX9_soon_19 (sgN (by decide)) rfl (by decide) rfl iw_X9 (by decide) rfl q_fl_X9_33 rfl ?_
      refine g_aload_n X 0 dX9_soon_22 rfl rfl ?_
      refine g_getr X (x := ad 5) 0 8 1 dX9_soon_23 (sgN (by decide)) rfl (by decide) rfl iw_X9 (by decide) rfl q_fl_X9_19 rfl ?_
      obtain ⟨m26, h26, hf⟩ := bv_i hf
      refine g_eVV X 23 0 [.ref (ad 5)] kV_X9_166 (c_X0_become (by unfold isF; decide) (by unfold isF; decide) h26) dX9_soon_26 rfl rfl (sgN (by decide)) rfl (by decide) rfl rfl ⟨(Nat.le_of_ble_eq_true rfl), (Nat.le_of_ble_eq_true rfl)⟩ ⟨rfl, rfl⟩ ⟨(Nat.zero_le _), (Nat.zero_le _)⟩ (Nat.le_of_ble_eq_true rfl) ?_
      refine g_iconst X (v := 0) dX9_soon_29 (by decide) ?_
      refine g_istore_n X (lv' := [(3, .int (0 : Int32)), (0, .ref (ad 0)), (1, .int p0), (2, .int p1)]) dX9_soon_30 rfl (by decide) rfl ?_
      refine g_pick [1, 2, 3, 0] (lv' := [(0, .ref (ad 0)), (1, .int p0), (2, .int p1), (3, .int (0 : Int32))]) rfl ?_
      exact w_X9_soon_31 X hret 10000 p0 p1 (0 : Int32) m26 hf
    · have hf := it c12 hf
      refine g_bipush X (v := -2) dX9_soon_15 (by decide) ?_
      obtain ⟨rfl, rfl⟩ := lf2 hf
      exact hret 17 _ dX9_soon_17 rfl

def X9_waysWithGift (nt : Nat) (z : Nat → Nat) (p0 : Int32) (p1 : Int32) (m0 : Mem) : Option (Int32 × Mem) :=
  bv (X0_become 23 5 m0) fun m8 =>
  if inn p0 6 then
  if inn p0 6 then
  bi (X2_rounds nt z 23 (8 : Int32) (-1 : Int32) (pI m8 27 p0.toNatClampNeg ((m8.1 27 p0.toNatClampNeg) ||| p1))) fun r35 m35 =>
  bi (X0_ways 23 (-1 : Int32) m35) fun r44 m44 =>
  some (r44, m44)
  else none
  else none
abbrev rmX9_waysWithGift : Room := { frames := 6, cells := 0, slots := 0, locals := 172 }

set_option maxRecDepth 100000 in
set_option maxHeartbeats 4000000 in
theorem c_X9_waysWithGift {l : Launch} {G : GG} {b : Nat} {ad : Nat → Nat} {nt : Nat} {z : Nat → Nat} {p0 : Int32} {p1 : Int32} {m0 : Mem} {r9 : Int32} {m9 : Mem} (hf : X9_waysWithGift nt z p0 p1 m0 = some (r9, m9)) : MtI l yX9_waysWithGift cX9_waysWithGift 3 (some .int) rmX9_waysWithGift G b (sg ad nt z) m0 [.ref (ad 0), .int p0, .int p1] (pEI r9 (sg ad nt z) m9) := by
  refine mtI_of (by decide) (Nat.le_of_ble_eq_true rfl) .int rfl (fun Γ hG X hnm hr => ?_)
  have hret : ∀ (pc : Nat) (lv : List (Nat × Value)), decode cX9_waysWithGift pc = .ok (.ireturn, 1) → narrow .int (.int r9) = .int r9 → Go Γ b (sg ad nt z) 0 0 pc lv [.int r9] m9 := fun pc lv d hn => hr pc lv _ _ _ d ⟨rfl, rfl, rfl⟩ hn
  show Go Γ b (sg ad nt z) 0 0 0 [(0, .ref (ad 0)), (1, .int p0), (2, .int p1)] [] m0
  refine g_aload_n X 0 dX9_waysWithGift_0 rfl rfl ?_
  refine g_getr X (x := ad 23) 0 8 5 dX9_waysWithGift_1 (sgN (by decide)) rfl (by decide) rfl iw_X9 (by decide) rfl q_fl_X9_33 rfl ?_
  refine g_aload_n X 0 dX9_waysWithGift_4 rfl rfl ?_
  refine g_getr X (x := ad 5) 0 8 1 dX9_waysWithGift_5 (sgN (by decide)) rfl (by decide) rfl iw_X9 (by decide) rfl q_fl_X9_19 rfl ?_
  obtain ⟨m8, h8, hf⟩ := bv_i hf
  refine g_eVV X 23 0 [.ref (ad 5)] kV_X9_166 (c_X0_become (by unfold isF; decide) (by unfold isF; decide) h8) dX9_waysWithGift_8 rfl rfl (sgN (by decide)) rfl (by decide) rfl rfl ⟨(Nat.le_of_ble_eq_true rfl), (Nat.le_of_ble_eq_true rfl)⟩ ⟨rfl, rfl⟩ ⟨(Nat.zero_le _), (Nat.zero_le _)⟩ (Nat.le_of_ble_eq_true rfl) ?_
  refine g_aload_n X 0 dX9_waysWithGift_11 rfl rfl ?_
  refine g_getr X (x := ad 23) 0 8 5 dX9_waysWithGift_12 (sgN (by decide)) rfl (by decide) rfl iw_X9 (by decide) rfl q_fl_X9_33 rfl ?_
  refine g_getr X (x := ad 27) 23 0 6 dX9_waysWithGift_15 (sgN (by decide)) rfl (by decide) rfl iw_X0 (by decide) rfl q_fl_X9_119 rfl ?_
  refine g_iload_n X 1 dX9_waysWithGift_18 rfl rfl ?_
  refine g_dup2 X dX9_waysWithGift_19 rfl rfl ?_
  obtain ⟨h20, hf⟩ := grd hf
  refine g_iald X 27 (n := 6) dX9_waysWithGift_20 (sgN (by decide)) rfl rfl h20 ?_
  refine g_iload_n X 2 dX9_waysWithGift_21 rfl rfl ?_
  refine g_ior X dX9_waysWithGift_22 ?_
  obtain ⟨h23, hf⟩ := grd hf
  refine g_iast X 27 (n := 6) dX9_waysWithGift_23 (sgN (by decide)) rfl rfl h23 ?_
  refine g_aload_n X 0 dX9_waysWithGift_24 rfl rfl ?_
  refine g_getr X (x := ad 50) 0 8 8 dX9_waysWithGift_25 (sgN (by decide)) rfl (by decide) rfl iw_X9 (by decide) rfl q_fl_X9_57 rfl ?_
  refine g_aload_n X 0 dX9_waysWithGift_28 rfl rfl ?_
  refine g_getr X (x := ad 23) 0 8 5 dX9_waysWithGift_29 (sgN (by decide)) rfl (by decide) rfl iw_X9 (by decide) rfl q_fl_X9_33 rfl ?_
  refine g_bipush X (v := 8) dX9_waysWithGift_32 (by decide) ?_
  refine g_iconst X (v := -1) dX9_waysWithGift_34 (by decide) ?_
  obtain ⟨r35, m35, h35, hf⟩ := bi_i hf
  refine g_eVI X 50 1 [.ref (ad 23), .int (8 : Int32), .int (-1 : Int32)] kV_X9_162 (c_X2_rounds (by unfold isF; decide) h35) dX9_waysWithGift_35 rfl rfl (sgN (by decide)) rfl (by decide) rfl rfl ⟨(Nat.le_of_ble_eq_true rfl), (Nat.le_of_ble_eq_true rfl)⟩ ⟨rfl, rfl⟩ ⟨(Nat.zero_le _), (Nat.zero_le _)⟩ (Nat.le_of_ble_eq_true rfl) ?_
  refine g_pop X dX9_waysWithGift_38 rfl ?_
  refine g_aload_n X 0 dX9_waysWithGift_39 rfl rfl ?_
  refine g_getr X (x := ad 23) 0 8 5 dX9_waysWithGift_40 (sgN (by decide)) rfl (by decide) rfl iw_X9 (by decide) rfl q_fl_X9_33 rfl ?_
  refine g_iconst X (v := -1) dX9_waysWithGift_43 (by decide) ?_
  obtain ⟨r44, m44, h44, hf⟩ := bi_i hf
  refine g_eVI X 23 0 [.int (-1 : Int32)] kV_X9_170 (c_X0_ways (by unfold isF; decide) h44) dX9_waysWithGift_44 rfl rfl (sgN (by decide)) rfl (by decide) rfl rfl ⟨(Nat.le_of_ble_eq_true rfl), (Nat.le_of_ble_eq_true rfl)⟩ ⟨rfl, rfl⟩ ⟨(Nat.zero_le _), (Nat.zero_le _)⟩ (Nat.le_of_ble_eq_true rfl) ?_
  obtain ⟨rfl, rfl⟩ := lf2 hf
  exact hret 47 _ dX9_waysWithGift_47 rfl

theorem kV_X9_191 : wcV RX9 191 RX9 yX9_waysWithGift cX9_waysWithGift 3 (some .int) 2 := ⟨q_ml_X9_191, q_im_yX9_waysWithGift, q_se_yX9_waysWithGift, q_in_X9, q_co_yX9_waysWithGift, by decide +kernel⟩

def X9_gift_81 (nt : Nat) (z : Nat → Nat) (k33 : Int32 → Int32 → Int32 → Int32 → Int32 → Mem → Option (Int32 × Mem)) (v1 : Int32) (v2 : Int32) (v3 : Int32) (v4 : Int32) (v5 : Int32) (m0 : Mem) : Option (Int32 × Mem) :=
  k33 v1 v2 v3 v4 (v5 + (1 : Int32)) m0
def X9_gift_33 (nt : Nat) (z : Nat → Nat) : Nat → Int32 → Int32 → Int32 → Int32 → Int32 → Mem → Option (Int32 × Mem)
  | 0, _, _, _, _, _, _ => none
  | n + 1, v1, v2, v3, v4, v5, m0 =>
    if (8 : Int32) ≤ v5 then
      if v2 = 0 then
        some (v3, m0)
      else
        some (v4, m0)
    else
      bi (X0_isKnown 5 v1 v5 m0) fun r47 m47 =>
      if r47 = 0 then
        bi (X9_waysWithGift nt z v1 ((1 : Int32) <<< (v5 &&& 31)) m47) fun r62 m62 =>
        if r62 ≤ v4 then
          X9_gift_81 nt z (X9_gift_33 nt z n) v1 v2 v3 v4 v5 m62
        else
          X9_gift_81 nt z (X9_gift_33 nt z n) v1 v2 v5 r62 v5 m62
      else
        X9_gift_81 nt z (X9_gift_33 nt z n) v1 v2 v3 v4 v5 m47
def X9_gift (nt : Nat) (z : Nat → Nat) (p0 : Int32) (p1 : Int32) (m0 : Mem) : Option (Int32 × Mem) :=
  bi (X9_isPerson p0 m0) fun r2 m2 =>
  if r2 = 0 then
    some ((-2 : Int32), m2)
  else
    if p1 < 0 then
      some ((-2 : Int32), m2)
    else
      if p1 ≤ (1 : Int32) then
        bi (X9_waysWithGift nt z p0 (0 : Int32) m2) fun r25 m25 =>
        X9_gift_33 nt z 10000 p0 p1 (-1 : Int32) r25 (0 : Int32) m25
      else
        some ((-2 : Int32), m2)
abbrev rmX9_gift : Room := { frames := 7, cells := 0, slots := 0, locals := 194 }
set_option maxRecDepth 100000 in
set_option maxHeartbeats 4000000 in
theorem w_X9_gift_81 {Γ : Ga} {b : Nat} {ad : Nat → Nat} {nt : Nat} {z : Nat → Nat} {k33 : Int32 → Int32 → Int32 → Int32 → Int32 → Mem → Option (Int32 × Mem)} {r9 : Int32} {m9 : Mem} (X : Cx Γ b cX9_gift 7 RX9 (some .int) rmX9_gift) (hret : ∀ (pc : Nat) (lv : List (Nat × Value)), decode cX9_gift pc = .ok (.ireturn, 1) → narrow .int (.int r9) = .int r9 → Go Γ b (sg ad nt z) 0 0 pc lv [.int r9] m9) (hk33 : ∀ (v1 : Int32) (v2 : Int32) (v3 : Int32) (v4 : Int32) (v5 : Int32) (m0 : Mem), k33 v1 v2 v3 v4 v5 m0 = some (r9, m9) → Go Γ b (sg ad nt z) 0 0 33 [(0, .ref (ad 0)), (1, .int v1), (2, .int v2), (3, .int v3), (4, .int v4), (5, .int v5)] [] m0) (v1 : Int32) (v2 : Int32) (v3 : Int32) (v4 : Int32) (v5 : Int32) (m0 : Mem) (hf : X9_gift_81 nt z k33 v1 v2 v3 v4 v5 m0 = some (r9, m9)) : Go Γ b (sg ad nt z) 0 0 81 [(0, .ref (ad 0)), (1, .int v1), (2, .int v2), (3, .int v3), (4, .int v4), (5, .int v5)] [] m0 := by
  refine g_iinc X 5 (v := v5 + (1 : Int32)) (lv' := [(5, .int (v5 + (1 : Int32))), (0, .ref (ad 0)), (1, .int v1), (2, .int v2), (3, .int v3), (4, .int v4)]) dX9_gift_81 rfl rfl (by decide) rfl ?_
  refine g_goto X (tgt := 33) dX9_gift_84 (by decide) ?_
  refine g_pick [1, 2, 3, 4, 5, 0] (lv' := [(0, .ref (ad 0)), (1, .int v1), (2, .int v2), (3, .int v3), (4, .int v4), (5, .int (v5 + (1 : Int32)))]) rfl ?_
  exact hk33 v1 v2 v3 v4 (v5 + (1 : Int32)) m0 hf
set_option maxRecDepth 100000 in
set_option maxHeartbeats 4000000 in
theorem w_X9_gift_33 {Γ : Ga} {b : Nat} {ad : Nat → Nat} {nt : Nat} {z : Nat → Nat} {r9 : Int32} {m9 : Mem} (X : Cx Γ b cX9_gift 7 RX9 (some .int) rmX9_gift) (hret : ∀ (pc : Nat) (lv : List (Nat × Value)), decode cX9_gift pc = .ok (.ireturn, 1) → narrow .int (.int r9) = .int r9 → Go Γ b (sg ad nt z) 0 0 pc lv [.int r9] m9) : ∀ (n : Nat) (v1 : Int32) (v2 : Int32) (v3 : Int32) (v4 : Int32) (v5 : Int32) (m0 : Mem), X9_gift_33 nt z n v1 v2 v3 v4 v5 m0 = some (r9, m9) → Go Γ b (sg ad nt z) 0 0 33 [(0, .ref (ad 0)), (1, .int v1), (2, .int v2), (3, .int v3), (4, .int v4), (5, .int v5)] [] m0 := by
  intro n
  induction n with
  | zero =>
    intro v1 v2 v3 v4 v5 m0 hf
    cases hf
  | succ n ih =>
    intro v1 v2 v3 v4 v5 m0 hf
    refine g_iload X 5 dX9_gift_33 rfl ?_
    refine g_bipush X (v := 8) dX9_gift_35 (by decide) ?_
    refine g_icmp_ge X (tgt := 87) dX9_gift_37 (by decide) (fun c37 => ?_) (fun c37 => ?_)
    · have hf := it c37 hf
      refine g_iload_n X 2 dX9_gift_87 rfl rfl ?_
      refine g_if_ne X (tgt := 95) dX9_gift_88 (by decide) (fun c88 => ?_) (fun c88 => ?_)
      · have hf := ie c88 hf
        refine g_iload X 4 dX9_gift_95 rfl ?_
        obtain ⟨rfl, rfl⟩ := lf2 hf
        exact hret 97 _ dX9_gift_97 rfl
      · have hf := it c88 hf
        refine g_iload_n X 3 dX9_gift_91 rfl rfl ?_
        refine g_goto X (tgt := 97) dX9_gift_92 (by decide) ?_
        obtain ⟨rfl, rfl⟩ := lf2 hf
        exact hret 97 _ dX9_gift_97 rfl
    · have hf := ie c37 hf
      refine g_aload_n X 0 dX9_gift_40 rfl rfl ?_
      refine g_getr X (x := ad 5) 0 8 1 dX9_gift_41 (sgN (by decide)) rfl (by decide) rfl iw_X9 (by decide) rfl q_fl_X9_19 rfl ?_
      refine g_iload_n X 1 dX9_gift_44 rfl rfl ?_
      refine g_iload X 5 dX9_gift_45 rfl ?_
      obtain ⟨r47, m47, h47, hf⟩ := bi_i hf
      refine g_eVI X 5 0 [.int v1, .int v5] kV_X9_183 (c_X0_isKnown (by unfold isF; decide) h47) dX9_gift_47 rfl rfl (sgN (by decide)) rfl (by decide) rfl rfl ⟨(Nat.le_of_ble_eq_true rfl), (Nat.le_of_ble_eq_true rfl)⟩ ⟨rfl, rfl⟩ ⟨(Nat.zero_le _), (Nat.zero_le _)⟩ (Nat.le_of_ble_eq_true rfl) ?_
      refine g_if_eq X (tgt := 56) dX9_gift_50 (by decide) (fun c50 => ?_) (fun c50 => ?_)
      · have hf := it c50 hf
        refine g_aload_n X 0 dX9_gift_56 rfl rfl ?_
        refine g_iload_n X 1 dX9_gift_57 rfl rfl ?_
        refine g_iconst X (v := 1) dX9_gift_58 (by decide) ?_
        refine g_iload X 5 dX9_gift_59 rfl ?_
        refine g_ishl X dX9_gift_61 ?_
        obtain ⟨r62, m62, h62, hf⟩ := bi_i hf
        refine g_eVI X 0 8 [.int v1, .int ((1 : Int32) <<< (v5 &&& 31))] kV_X9_191 (c_X9_waysWithGift h62) dX9_gift_62 rfl rfl (sgN (by decide)) rfl (by decide) rfl rfl ⟨(Nat.le_of_ble_eq_true rfl), (Nat.le_of_ble_eq_true rfl)⟩ ⟨rfl, rfl⟩ ⟨(Nat.zero_le _), (Nat.zero_le _)⟩ (Nat.le_of_ble_eq_true rfl) ?_
        refine g_istore X (lv' := [(6, .int r62), (0, .ref (ad 0)), (1, .int v1), (2, .int v2), (3, .int v3), (4, .int v4), (5, .int v5)]) dX9_gift_65 (by decide) rfl ?_
        refine g_iload X 0 dX9_gift_67 rfl ?_
        refine g_iload X 5 dX9_gift_69 rfl ?_
        refine g_icmp_le X (tgt := 81) dX9_gift_71 (by decide) (fun c71 => ?_) (fun c71 => ?_)
        · have hf := it c71 hf
          refine g_pick [1, 2, 3, 4, 5, 6] (lv' := [(0, .ref (ad 0)), (1, .int v1), (2, .int v2), (3, .int v3), (4, .int v4), (5, .int v5)]) rfl ?_
          exact w_X9_gift_81 X hret ih v1 v2 v3 v4 v5 m62 hf
        · have hf := ie c71 hf
          refine g_iload X 6 dX9_gift_74 rfl ?_
          refine g_istore_n X (lv' := [(3, .int v5), (6, .int r62), (0, .ref (ad 0)), (1, .int v1), (2, .int v2), (4, .int v4), (5, .int v5)]) dX9_gift_76 rfl (by decide) rfl ?_
          refine g_iload X 1 dX9_gift_77 rfl ?_
          refine g_istore X (lv' := [(4, .int r62), (3, .int v5), (6, .int r62), (0, .ref (ad 0)), (1, .int v1), (2, .int v2), (5, .int v5)]) dX9_gift_79 (by decide) rfl ?_
          refine g_pick [3, 4, 5, 1, 0, 6] (lv' := [(0, .ref (ad 0)), (1, .int v1), (2, .int v2), (3, .int v5), (4, .int r62), (5, .int v5)]) rfl ?_
          exact w_X9_gift_81 X hret ih v1 v2 v5 r62 v5 m62 hf
      · have hf := ie c50 hf
        refine g_goto X (tgt := 81) dX9_gift_53 (by decide) ?_
        exact w_X9_gift_81 X hret ih v1 v2 v3 v4 v5 m47 hf
set_option maxRecDepth 100000 in
set_option maxHeartbeats 4000000 in
theorem c_X9_gift {l : Launch} {G : GG} {b : Nat} {ad : Nat → Nat} {nt : Nat} {z : Nat → Nat} {p0 : Int32} {p1 : Int32} {m0 : Mem} {r9 : Int32} {m9 : Mem} (hf : X9_gift nt z p0 p1 m0 = some (r9, m9)) : MtI l yX9_gift cX9_gift 7 (some .int) rmX9_gift G b (sg ad nt z) m0 [.ref (ad 0), .int p0, .int p1] (pEI r9 (sg ad nt z) m9) := by
  refine mtI_of (by decide) (Nat.le_of_ble_eq_true rfl) .int rfl (fun Γ hG X hnm hr => ?_)
  have hret : ∀ (pc : Nat) (lv : List (Nat × Value)), decode cX9_gift pc = .ok (.ireturn, 1) → narrow .int (.int r9) = .int r9 → Go Γ b (sg ad nt z) 0 0 pc lv [.int r9] m9 := fun pc lv d hn => hr pc lv _ _ _ d ⟨rfl, rfl, rfl⟩ hn
  show Go Γ b (sg ad nt z) 0 0 0 [(0, .ref (ad 0)), (1, .int p0), (2, .int p1)] [] m0
  refine g_aload_n X 0 dX9_gift_0 rfl rfl ?_
  refine g_iload_n X 1 dX9_gift_1 rfl rfl ?_
  obtain ⟨r2, m2, h2, hf⟩ := bi_i hf
  refine g_eVI X 0 8 [.int p0] kV_X9_86 (c_X9_isPerson h2) dX9_gift_2 rfl rfl (sgN (by decide)) rfl (by decide) rfl rfl ⟨(Nat.le_of_ble_eq_true rfl), (Nat.le_of_ble_eq_true rfl)⟩ ⟨rfl, rfl⟩ ⟨(Nat.zero_le _), (Nat.zero_le _)⟩ (Nat.le_of_ble_eq_true rfl) ?_
  refine g_if_eq X (tgt := 17) dX9_gift_5 (by decide) (fun c5 => ?_) (fun c5 => ?_)
  · have hf := it c5 hf
    refine g_bipush X (v := -2) dX9_gift_17 (by decide) ?_
    obtain ⟨rfl, rfl⟩ := lf2 hf
    exact hret 19 _ dX9_gift_19 rfl
  · have hf := ie c5 hf
    refine g_iload_n X 2 dX9_gift_8 rfl rfl ?_
    refine g_if_lt X (tgt := 17) dX9_gift_9 (by decide) (fun c9 => ?_) (fun c9 => ?_)
    · have hf := it c9 hf
      refine g_bipush X (v := -2) dX9_gift_17 (by decide) ?_
      obtain ⟨rfl, rfl⟩ := lf2 hf
      exact hret 19 _ dX9_gift_19 rfl
    · have hf := ie c9 hf
      refine g_iload_n X 2 dX9_gift_12 rfl rfl ?_
      refine g_iconst X (v := 1) dX9_gift_13 (by decide) ?_
      refine g_icmp_le X (tgt := 20) dX9_gift_14 (by decide) (fun c14 => ?_) (fun c14 => ?_)
      · have hf := it c14 hf
        refine g_iconst X (v := -1) dX9_gift_20 (by decide) ?_
        refine g_istore_n X (lv' := [(3, .int (-1 : Int32)), (0, .ref (ad 0)), (1, .int p0), (2, .int p1)]) dX9_gift_21 rfl (by decide) rfl ?_
        refine g_aload_n X 1 dX9_gift_22 rfl rfl ?_
        refine g_iload_n X 2 dX9_gift_23 rfl rfl ?_
        refine g_iconst X (v := 0) dX9_gift_24 (by decide) ?_
        obtain ⟨r25, m25, h25, hf⟩ := bi_i hf
        refine g_eVI X 0 8 [.int p0, .int (0 : Int32)] kV_X9_191 (c_X9_waysWithGift h25) dX9_gift_25 rfl rfl (sgN (by decide)) rfl (by decide) rfl rfl ⟨(Nat.le_of_ble_eq_true rfl), (Nat.le_of_ble_eq_true rfl)⟩ ⟨rfl, rfl⟩ ⟨(Nat.zero_le _), (Nat.zero_le _)⟩ (Nat.le_of_ble_eq_true rfl) ?_
        refine g_istore X (lv' := [(4, .int r25), (3, .int (-1 : Int32)), (0, .ref (ad 0)), (1, .int p0), (2, .int p1)]) dX9_gift_28 (by decide) rfl ?_
        refine g_iconst X (v := 0) dX9_gift_30 (by decide) ?_
        refine g_istore X (lv' := [(5, .int (0 : Int32)), (4, .int r25), (3, .int (-1 : Int32)), (0, .ref (ad 0)), (1, .int p0), (2, .int p1)]) dX9_gift_31 (by decide) rfl ?_
        refine g_pick [3, 4, 5, 2, 1, 0] (lv' := [(0, .ref (ad 0)), (1, .int p0), (2, .int p1), (3, .int (-1 : Int32)), (4, .int r25), (5, .int (0 : Int32))]) rfl ?_
        exact w_X9_gift_33 X hret 10000 p0 p1 (-1 : Int32) r25 (0 : Int32) m25 hf
      · have hf := ie c14 hf
        refine g_bipush X (v := -2) dX9_gift_17 (by decide) ?_
        obtain ⟨rfl, rfl⟩ := lf2 hf
        exact hret 19 _ dX9_gift_19 rfl

def X9_missed_96 (nt : Nat) (z : Nat → Nat) (k19 : Int32 → Int32 → Int32 → Int32 → Mem → Option (Int32 × Mem)) (v1 : Int32) (v2 : Int32) (v3 : Int32) (v4 : Int32) (m0 : Mem) : Option (Int32 × Mem) :=
  k19 v1 v2 v3 (v4 + (1 : Int32)) m0
def X9_missed_90 (nt : Nat) (z : Nat → Nat) (k19 : Int32 → Int32 → Int32 → Int32 → Mem → Option (Int32 × Mem)) (v1 : Int32) (v4 : Int32) (v5 : Int32) (m0 : Mem) : Option (Int32 × Mem) :=
  X9_missed_96 nt z k19 v1 v4 v5 v4 m0
def X9_missed_19 (nt : Nat) (z : Nat → Nat) : Nat → Int32 → Int32 → Int32 → Int32 → Mem → Option (Int32 × Mem)
  | 0, _, _, _, _, _ => none
  | n + 1, v1, v2, v3, v4, m0 =>
    if (m0.1 5 0) ≤ v4 then
      if v1 = 0 then
        some (v2, m0)
      else
        some (v3, m0)
    else
      bv (X0_become 23 5 m0) fun m39 =>
      bi (X2_rounds nt z 23 (8 : Int32) v4 m39) fun r54 m54 =>
      bi (X0_ways 23 v4 m54) fun r64 m64 =>
      bi (X0_ways 5 v4 m64) fun r73 m73 =>
      if v2 = (-1 : Int32) then
        X9_missed_90 nt z (X9_missed_19 nt z n) v1 v4 (r64 - r73) m73
      else
        if v3 ≤ (r64 - r73) then
          X9_missed_96 nt z (X9_missed_19 nt z n) v1 v2 v3 v4 m73
        else
          X9_missed_90 nt z (X9_missed_19 nt z n) v1 v4 (r64 - r73) m73
def X9_missed (nt : Nat) (z : Nat → Nat) (p0 : Int32) (m0 : Mem) : Option (Int32 × Mem) :=
  if p0 < 0 then
    some ((-2 : Int32), m0)
  else
    if p0 ≤ (1 : Int32) then
      X9_missed_19 nt z 10000 p0 (-1 : Int32) (-1 : Int32) (0 : Int32) m0
    else
      some ((-2 : Int32), m0)
abbrev rmX9_missed : Room := { frames := 6, cells := 0, slots := 0, locals := 172 }
set_option maxRecDepth 100000 in
set_option maxHeartbeats 4000000 in
theorem w_X9_missed_96 {Γ : Ga} {b : Nat} {ad : Nat → Nat} {nt : Nat} {z : Nat → Nat} {k19 : Int32 → Int32 → Int32 → Int32 → Mem → Option (Int32 × Mem)} {r9 : Int32} {m9 : Mem} (X : Cx Γ b cX9_missed 6 RX9 (some .int) rmX9_missed) (hret : ∀ (pc : Nat) (lv : List (Nat × Value)), decode cX9_missed pc = .ok (.ireturn, 1) → narrow .int (.int r9) = .int r9 → Go Γ b (sg ad nt z) 0 0 pc lv [.int r9] m9) (hk19 : ∀ (v1 : Int32) (v2 : Int32) (v3 : Int32) (v4 : Int32) (m0 : Mem), k19 v1 v2 v3 v4 m0 = some (r9, m9) → Go Γ b (sg ad nt z) 0 0 19 [(0, .ref (ad 0)), (1, .int v1), (2, .int v2), (3, .int v3), (4, .int v4)] [] m0) (v1 : Int32) (v2 : Int32) (v3 : Int32) (v4 : Int32) (m0 : Mem) (hf : X9_missed_96 nt z k19 v1 v2 v3 v4 m0 = some (r9, m9)) : Go Γ b (sg ad nt z) 0 0 96 [(0, .ref (ad 0)), (1, .int v1), (2, .int v2), (3, .int v3), (4, .int v4)] [] m0 := by
  refine g_iinc X 4 (v := v4 + (1 : Int32)) (lv' := [(4, .int (v4 + (1 : Int32))), (0, .ref (ad 0)), (1, .int v1), (2, .int v2), (3, .int v3)]) dX9_missed_96 rfl rfl (by decide) rfl ?_
  refine g_goto X (tgt := 19) dX9_missed_99 (by decide) ?_
  refine g_pick [1, 2, 3, 4, 0] (lv' := [(0, .ref (ad 0)), (1, .int v1), (2, .int v2), (3, .int v3), (4, .int (v4 + (1 : Int32)))]) rfl ?_
  exact hk19 v1 v2 v3 (v4 + (1 : Int32)) m0 hf
set_option maxRecDepth 100000 in
set_option maxHeartbeats 4000000 in
theorem w_X9_missed_90 {Γ : Ga} {b : Nat} {ad : Nat → Nat} {nt : Nat} {z : Nat → Nat} {k19 : Int32 → Int32 → Int32 → Int32 → Mem → Option (Int32 × Mem)} {r9 : Int32} {m9 : Mem} (X : Cx Γ b cX9_missed 6 RX9 (some .int) rmX9_missed) (hret : ∀ (pc : Nat) (lv : List (Nat × Value)), decode cX9_missed pc = .ok (.ireturn, 1) → narrow .int (.int r9) = .int r9 → Go Γ b (sg ad nt z) 0 0 pc lv [.int r9] m9) (hk19 : ∀ (v1 : Int32) (v2 : Int32) (v3 : Int32) (v4 : Int32) (m0 : Mem), k19 v1 v2 v3 v4 m0 = some (r9, m9) → Go Γ b (sg ad nt z) 0 0 19 [(0, .ref (ad 0)), (1, .int v1), (2, .int v2), (3, .int v3), (4, .int v4)] [] m0) (v1 : Int32) (v4 : Int32) (v5 : Int32) (m0 : Mem) (hf : X9_missed_90 nt z k19 v1 v4 v5 m0 = some (r9, m9)) : Go Γ b (sg ad nt z) 0 0 90 [(0, .ref (ad 0)), (1, .int v1), (4, .int v4), (5, .int v5)] [] m0 := by
  refine g_iload X 2 dX9_missed_90 rfl ?_
  refine g_istore_n X (lv' := [(2, .int v4), (0, .ref (ad 0)), (1, .int v1), (4, .int v4), (5, .int v5)]) dX9_missed_92 rfl (by decide) rfl ?_
  refine g_iload X 4 dX9_missed_93 rfl ?_
  refine g_istore_n X (lv' := [(3, .int v5), (2, .int v4), (0, .ref (ad 0)), (1, .int v1), (4, .int v4), (5, .int v5)]) dX9_missed_95 rfl (by decide) rfl ?_
  refine g_pick [2, 3, 1, 0, 4] (lv' := [(0, .ref (ad 0)), (1, .int v1), (2, .int v4), (3, .int v5), (4, .int v4)]) rfl ?_
  exact w_X9_missed_96 X hret hk19 v1 v4 v5 v4 m0 hf
set_option maxRecDepth 100000 in
set_option maxHeartbeats 4000000 in
theorem w_X9_missed_19 {Γ : Ga} {b : Nat} {ad : Nat → Nat} {nt : Nat} {z : Nat → Nat} {r9 : Int32} {m9 : Mem} (X : Cx Γ b cX9_missed 6 RX9 (some .int) rmX9_missed) (hret : ∀ (pc : Nat) (lv : List (Nat × Value)), decode cX9_missed pc = .ok (.ireturn, 1) → narrow .int (.int r9) = .int r9 → Go Γ b (sg ad nt z) 0 0 pc lv [.int r9] m9) : ∀ (n : Nat) (v1 : Int32) (v2 : Int32) (v3 : Int32) (v4 : Int32) (m0 : Mem), X9_missed_19 nt z n v1 v2 v3 v4 m0 = some (r9, m9) → Go Γ b (sg ad nt z) 0 0 19 [(0, .ref (ad 0)), (1, .int v1), (2, .int v2), (3, .int v3), (4, .int v4)] [] m0 := by
  intro n
  induction n with
  | zero =>
    intro v1 v2 v3 v4 m0 hf
    cases hf
  | succ n ih =>
    intro v1 v2 v3 v4 m0 hf
    refine g_iload X 4 dX9_missed_19 rfl ?_
    refine g_aload_n X 0 dX9_missed_21 rfl rfl ?_
    refine g_getr X (x := ad 5) 0 8 1 dX9_missed_22 (sgN (by decide)) rfl (by decide) rfl iw_X9 (by decide) rfl q_fl_X9_19 rfl ?_
    refine g_getI X 5 0 0 dX9_missed_25 (sgN (by decide)) rfl (by decide) rfl iw_X0 (by decide) rfl q_fl_X9_165 ?_
    refine g_icmp_ge X (tgt := 102) dX9_missed_28 (by decide) (fun c28 => ?_) (fun c28 => ?_)
    · have hf := it c28 hf
      refine g_iload_n X 1 dX9_missed_102 rfl rfl ?_
      refine g_if_ne X (tgt := 110) dX9_missed_103 (by decide) (fun c103 => ?_) (fun c103 => ?_)
      · have hf := ie c103 hf
        refine g_iload_n X 3 dX9_missed_110 rfl rfl ?_
        obtain ⟨rfl, rfl⟩ := lf2 hf
        exact hret 111 _ dX9_missed_111 rfl
      · have hf := it c103 hf
        refine g_iload_n X 2 dX9_missed_106 rfl rfl ?_
        refine g_goto X (tgt := 111) dX9_missed_107 (by decide) ?_
        obtain ⟨rfl, rfl⟩ := lf2 hf
        exact hret 111 _ dX9_missed_111 rfl
    · have hf := ie c28 hf
      refine g_aload_n X 0 dX9_missed_31 rfl rfl ?_
      refine g_getr X (x := ad 23) 0 8 5 dX9_missed_32 (sgN (by decide)) rfl (by decide) rfl iw_X9 (by decide) rfl q_fl_X9_33 rfl ?_
      refine g_aload_n X 0 dX9_missed_35 rfl rfl ?_
      refine g_getr X (x := ad 5) 0 8 1 dX9_missed_36 (sgN (by decide)) rfl (by decide) rfl iw_X9 (by decide) rfl q_fl_X9_19 rfl ?_
      obtain ⟨m39, h39, hf⟩ := bv_i hf
      refine g_eVV X 23 0 [.ref (ad 5)] kV_X9_166 (c_X0_become (by unfold isF; decide) (by unfold isF; decide) h39) dX9_missed_39 rfl rfl (sgN (by decide)) rfl (by decide) rfl rfl ⟨(Nat.le_of_ble_eq_true rfl), (Nat.le_of_ble_eq_true rfl)⟩ ⟨rfl, rfl⟩ ⟨(Nat.zero_le _), (Nat.zero_le _)⟩ (Nat.le_of_ble_eq_true rfl) ?_
      refine g_aload_n X 0 dX9_missed_42 rfl rfl ?_
      refine g_getr X (x := ad 50) 0 8 8 dX9_missed_43 (sgN (by decide)) rfl (by decide) rfl iw_X9 (by decide) rfl q_fl_X9_57 rfl ?_
      refine g_aload_n X 0 dX9_missed_46 rfl rfl ?_
      refine g_getr X (x := ad 23) 0 8 5 dX9_missed_47 (sgN (by decide)) rfl (by decide) rfl iw_X9 (by decide) rfl q_fl_X9_33 rfl ?_
      refine g_bipush X (v := 8) dX9_missed_50 (by decide) ?_
      refine g_iload X 4 dX9_missed_52 rfl ?_
      obtain ⟨r54, m54, h54, hf⟩ := bi_i hf
      refine g_eVI X 50 1 [.ref (ad 23), .int (8 : Int32), .int v4] kV_X9_162 (c_X2_rounds (by unfold isF; decide) h54) dX9_missed_54 rfl rfl (sgN (by decide)) rfl (by decide) rfl rfl ⟨(Nat.le_of_ble_eq_true rfl), (Nat.le_of_ble_eq_true rfl)⟩ ⟨rfl, rfl⟩ ⟨(Nat.zero_le _), (Nat.zero_le _)⟩ (Nat.le_of_ble_eq_true rfl) ?_
      refine g_pop X dX9_missed_57 rfl ?_
      refine g_aload_n X 0 dX9_missed_58 rfl rfl ?_
      refine g_getr X (x := ad 23) 0 8 5 dX9_missed_59 (sgN (by decide)) rfl (by decide) rfl iw_X9 (by decide) rfl q_fl_X9_33 rfl ?_
      refine g_iload X 4 dX9_missed_62 rfl ?_
      obtain ⟨r64, m64, h64, hf⟩ := bi_i hf
      refine g_eVI X 23 0 [.int v4] kV_X9_170 (c_X0_ways (by unfold isF; decide) h64) dX9_missed_64 rfl rfl (sgN (by decide)) rfl (by decide) rfl rfl ⟨(Nat.le_of_ble_eq_true rfl), (Nat.le_of_ble_eq_true rfl)⟩ ⟨rfl, rfl⟩ ⟨(Nat.zero_le _), (Nat.zero_le _)⟩ (Nat.le_of_ble_eq_true rfl) ?_
      refine g_aload_n X 0 dX9_missed_67 rfl rfl ?_
      refine g_getr X (x := ad 5) 0 8 1 dX9_missed_68 (sgN (by decide)) rfl (by decide) rfl iw_X9 (by decide) rfl q_fl_X9_19 rfl ?_
      refine g_iload X 4 dX9_missed_71 rfl ?_
      obtain ⟨r73, m73, h73, hf⟩ := bi_i hf
      refine g_eVI X 5 0 [.int v4] kV_X9_170 (c_X0_ways (by unfold isF; decide) h73) dX9_missed_73 rfl rfl (sgN (by decide)) rfl (by decide) rfl rfl ⟨(Nat.le_of_ble_eq_true rfl), (Nat.le_of_ble_eq_true rfl)⟩ ⟨rfl, rfl⟩ ⟨(Nat.zero_le _), (Nat.zero_le _)⟩ (Nat.le_of_ble_eq_true rfl) ?_
      refine g_isub X dX9_missed_76 ?_
      refine g_istore X (lv' := [(5, .int (r64 - r73)), (0, .ref (ad 0)), (1, .int v1), (2, .int v2), (3, .int v3), (4, .int v4)]) dX9_missed_77 (by decide) rfl ?_
      refine g_iload_n X 3 dX9_missed_79 rfl rfl ?_
      refine g_iconst X (v := -1) dX9_missed_80 (by decide) ?_
      refine g_icmp_eq X (tgt := 90) dX9_missed_81 (by decide) (fun c81 => ?_) (fun c81 => ?_)
      · have hf := it c81 hf
        refine g_pick [1, 2, 5, 0] (lv' := [(0, .ref (ad 0)), (1, .int v1), (4, .int v4), (5, .int (r64 - r73))]) rfl ?_
        exact w_X9_missed_90 X hret ih v1 v4 (r64 - r73) m73 hf
      · have hf := ie c81 hf
        refine g_iload X 0 dX9_missed_84 rfl ?_
        refine g_iload_n X 4 dX9_missed_86 rfl rfl ?_
        refine g_icmp_ge X (tgt := 96) dX9_missed_87 (by decide) (fun c87 => ?_) (fun c87 => ?_)
        · have hf := it c87 hf
          refine g_pick [1, 2, 3, 4, 5] (lv' := [(0, .ref (ad 0)), (1, .int v1), (2, .int v2), (3, .int v3), (4, .int v4)]) rfl ?_
          exact w_X9_missed_96 X hret ih v1 v2 v3 v4 m73 hf
        · have hf := ie c87 hf
          refine g_pick [1, 2, 5, 0] (lv' := [(0, .ref (ad 0)), (1, .int v1), (4, .int v4), (5, .int (r64 - r73))]) rfl ?_
          exact w_X9_missed_90 X hret ih v1 v4 (r64 - r73) m73 hf
set_option maxRecDepth 100000 in
set_option maxHeartbeats 4000000 in
theorem c_X9_missed {l : Launch} {G : GG} {b : Nat} {ad : Nat → Nat} {nt : Nat} {z : Nat → Nat} {p0 : Int32} {m0 : Mem} {r9 : Int32} {m9 : Mem} (hf : X9_missed nt z p0 m0 = some (r9, m9)) : MtI l yX9_missed cX9_missed 6 (some .int) rmX9_missed G b (sg ad nt z) m0 [.ref (ad 0), .int p0] (pEI r9 (sg ad nt z) m9) := by
  refine mtI_of (by decide) (Nat.le_of_ble_eq_true rfl) .int rfl (fun Γ hG X hnm hr => ?_)
  have hret : ∀ (pc : Nat) (lv : List (Nat × Value)), decode cX9_missed pc = .ok (.ireturn, 1) → narrow .int (.int r9) = .int r9 → Go Γ b (sg ad nt z) 0 0 pc lv [.int r9] m9 := fun pc lv d hn => hr pc lv _ _ _ d ⟨rfl, rfl, rfl⟩ hn
  show Go Γ b (sg ad nt z) 0 0 0 [(0, .ref (ad 0)), (1, .int p0)] [] m0
  refine g_iload_n X 1 dX9_missed_0 rfl rfl ?_
  refine g_if_lt X (tgt := 9) dX9_missed_1 (by decide) (fun c1 => ?_) (fun c1 => ?_)
  · have hf := it c1 hf
    refine g_bipush X (v := -2) dX9_missed_9 (by decide) ?_
    obtain ⟨rfl, rfl⟩ := lf2 hf
    exact hret 11 _ dX9_missed_11 rfl
  · have hf := ie c1 hf
    refine g_iload_n X 1 dX9_missed_4 rfl rfl ?_
    refine g_iconst X (v := 1) dX9_missed_5 (by decide) ?_
    refine g_icmp_le X (tgt := 12) dX9_missed_6 (by decide) (fun c6 => ?_) (fun c6 => ?_)
    · have hf := it c6 hf
      refine g_iconst X (v := -1) dX9_missed_12 (by decide) ?_
      refine g_istore_n X (lv' := [(2, .int (-1 : Int32)), (0, .ref (ad 0)), (1, .int p0)]) dX9_missed_13 rfl (by decide) rfl ?_
      refine g_iconst X (v := -1) dX9_missed_14 (by decide) ?_
      refine g_istore_n X (lv' := [(3, .int (-1 : Int32)), (2, .int (-1 : Int32)), (0, .ref (ad 0)), (1, .int p0)]) dX9_missed_15 rfl (by decide) rfl ?_
      refine g_iconst X (v := 0) dX9_missed_16 (by decide) ?_
      refine g_istore X (lv' := [(4, .int (0 : Int32)), (3, .int (-1 : Int32)), (2, .int (-1 : Int32)), (0, .ref (ad 0)), (1, .int p0)]) dX9_missed_17 (by decide) rfl ?_
      refine g_pick [3, 4, 2, 1, 0] (lv' := [(0, .ref (ad 0)), (1, .int p0), (2, .int (-1 : Int32)), (3, .int (-1 : Int32)), (4, .int (0 : Int32))]) rfl ?_
      exact w_X9_missed_19 X hret 10000 p0 (-1 : Int32) (-1 : Int32) (0 : Int32) m0 hf
    · have hf := ie c6 hf
      refine g_bipush X (v := -2) dX9_missed_9 (by decide) ?_
      obtain ⟨rfl, rfl⟩ := lf2 hf
      exact hret 11 _ dX9_missed_11 rfl

theorem kV_X9_194 : wcV RX9 194 RX4 yX4_walked cX4_walked 4 (some .int) 3 := ⟨q_ml_X9_194, q_im_yX4_walked, q_se_yX4_walked, q_in_X4, q_co_yX4_walked, by decide +kernel⟩

def X9_walk (p0 : Int32) (p1 : Int32) (p2 : Int32) (m0 : Mem) : Option (Int32 × Mem) :=
  bi (X9_isPerson p0 m0) fun r2 m2 =>
  if r2 = 0 then
    some ((-2 : Int32), m2)
  else
    bi (X9_isPlace p1 m2) fun r9 m9 =>
    if r9 = 0 then
      some ((-2 : Int32), m9)
    else
      bi (X9_isPlace p2 m9) fun r16 m16 =>
      if r16 = 0 then
        some ((-2 : Int32), m16)
      else
        if inn p0 6 then
        bi (X4_walked p1 p2 (m16.1 9 p0.toNatClampNeg) m16) fun r40 m40 =>
        some (r40, m40)
        else none
abbrev rmX9_walk : Room := { frames := 2, cells := 0, slots := 0, locals := 52 }

set_option maxRecDepth 100000 in
set_option maxHeartbeats 4000000 in
theorem c_X9_walk {l : Launch} {G : GG} {b : Nat} {ad : Nat → Nat} {nt : Nat} {z : Nat → Nat} {p0 : Int32} {p1 : Int32} {p2 : Int32} {m0 : Mem} {r9 : Int32} {m9 : Mem} (hf : X9_walk p0 p1 p2 m0 = some (r9, m9)) : MtI l yX9_walk cX9_walk 4 (some .int) rmX9_walk G b (sg ad nt z) m0 [.ref (ad 0), .int p0, .int p1, .int p2] (pEI r9 (sg ad nt z) m9) := by
  refine mtI_of (by decide) (Nat.le_of_ble_eq_true rfl) .int rfl (fun Γ hG X hnm hr => ?_)
  have hret : ∀ (pc : Nat) (lv : List (Nat × Value)), decode cX9_walk pc = .ok (.ireturn, 1) → narrow .int (.int r9) = .int r9 → Go Γ b (sg ad nt z) 0 0 pc lv [.int r9] m9 := fun pc lv d hn => hr pc lv _ _ _ d ⟨rfl, rfl, rfl⟩ hn
  show Go Γ b (sg ad nt z) 0 0 0 [(0, .ref (ad 0)), (1, .int p0), (2, .int p1), (3, .int p2)] [] m0
  refine g_aload_n X 0 dX9_walk_0 rfl rfl ?_
  refine g_iload_n X 1 dX9_walk_1 rfl rfl ?_
  obtain ⟨r2, m2, h2, hf⟩ := bi_i hf
  refine g_eVI X 0 8 [.int p0] kV_X9_86 (c_X9_isPerson h2) dX9_walk_2 rfl rfl (sgN (by decide)) rfl (by decide) rfl rfl ⟨(Nat.le_of_ble_eq_true rfl), (Nat.le_of_ble_eq_true rfl)⟩ ⟨rfl, rfl⟩ ⟨(Nat.zero_le _), (Nat.zero_le _)⟩ (Nat.le_of_ble_eq_true rfl) ?_
  refine g_if_eq X (tgt := 22) dX9_walk_5 (by decide) (fun c5 => ?_) (fun c5 => ?_)
  · have hf := it c5 hf
    refine g_bipush X (v := -2) dX9_walk_22 (by decide) ?_
    obtain ⟨rfl, rfl⟩ := lf2 hf
    exact hret 24 _ dX9_walk_24 rfl
  · have hf := ie c5 hf
    refine g_iload_n X 2 dX9_walk_8 rfl rfl ?_
    obtain ⟨r9, m9, h9, hf⟩ := bi_i hf
    refine g_eSI X [.int p1] kS_X9_98 (c_X9_isPlace h9) dX9_walk_9 rfl rfl ⟨(Nat.le_of_ble_eq_true rfl), (Nat.le_of_ble_eq_true rfl)⟩ ⟨rfl, rfl⟩ ⟨(Nat.zero_le _), (Nat.zero_le _)⟩ (Nat.le_of_ble_eq_true rfl) ?_
    refine g_if_eq X (tgt := 22) dX9_walk_12 (by decide) (fun c12 => ?_) (fun c12 => ?_)
    · have hf := it c12 hf
      refine g_bipush X (v := -2) dX9_walk_22 (by decide) ?_
      obtain ⟨rfl, rfl⟩ := lf2 hf
      exact hret 24 _ dX9_walk_24 rfl
    · have hf := ie c12 hf
      refine g_iload_n X 3 dX9_walk_15 rfl rfl ?_
      obtain ⟨r16, m16, h16, hf⟩ := bi_i hf
      refine g_eSI X [.int p2] kS_X9_98 (c_X9_isPlace h16) dX9_walk_16 rfl rfl ⟨(Nat.le_of_ble_eq_true rfl), (Nat.le_of_ble_eq_true rfl)⟩ ⟨rfl, rfl⟩ ⟨(Nat.zero_le _), (Nat.zero_le _)⟩ (Nat.le_of_ble_eq_true rfl) ?_
      refine g_if_ne X (tgt := 25) dX9_walk_19 (by decide) (fun c19 => ?_) (fun c19 => ?_)
      · have hf := ie c19 hf
        refine g_aload_n X 0 dX9_walk_25 rfl rfl ?_
        refine g_getr X (x := ad 1) 0 8 0 dX9_walk_26 (sgN (by decide)) rfl (by decide) rfl iw_X9 (by decide) rfl q_fl_X9_10 rfl ?_
        refine g_iload_n X 2 dX9_walk_29 rfl rfl ?_
        refine g_iload_n X 3 dX9_walk_30 rfl rfl ?_
        refine g_aload_n X 0 dX9_walk_31 rfl rfl ?_
        refine g_getr X (x := ad 5) 0 8 1 dX9_walk_32 (sgN (by decide)) rfl (by decide) rfl iw_X9 (by decide) rfl q_fl_X9_19 rfl ?_
        refine g_getr X (x := ad 9) 5 0 6 dX9_walk_35 (sgN (by decide)) rfl (by decide) rfl iw_X0 (by decide) rfl q_fl_X9_119 rfl ?_
        refine g_iload_n X 1 dX9_walk_38 rfl rfl ?_
        obtain ⟨h39, hf⟩ := grd hf
        refine g_iald X 9 (n := 6) dX9_walk_39 (sgN (by decide)) rfl rfl h39 ?_
        obtain ⟨r40, m40, h40, hf⟩ := bi_i hf
        refine g_eVI X 1 3 [.int p1, .int p2, .int (m16.1 9 p0.toNatClampNeg)] kV_X9_194 (c_X4_walked h40) dX9_walk_40 rfl rfl (sgN (by decide)) rfl (by decide) rfl rfl ⟨(Nat.le_of_ble_eq_true rfl), (Nat.le_of_ble_eq_true rfl)⟩ ⟨rfl, rfl⟩ ⟨(Nat.zero_le _), (Nat.zero_le _)⟩ (Nat.le_of_ble_eq_true rfl) ?_
        obtain ⟨rfl, rfl⟩ := lf2 hf
        exact hret 43 _ dX9_walk_43 rfl
      · have hf := it c19 hf
        refine g_bipush X (v := -2) dX9_walk_22 (by decide) ?_
        obtain ⟨rfl, rfl⟩ := lf2 hf
        exact hret 24 _ dX9_walk_24 rfl

def X9_sheetOf (p0 : Int32) (m0 : Mem) : Option (Option Nat × Mem) :=
  if p0 < 0 then
    some (none, m0)
  else
    if (4 : Int32) ≤ p0 then
      some (none, m0)
    else
      if inn p0 4 then
      wi (55 + 2 * p0.toNatClampNeg) fun w14 =>
      some (some w14, m0)
      else none
abbrev rmX9_sheetOf : Room := { frames := 0, cells := 0, slots := 0, locals := 0 }

set_option maxRecDepth 100000 in
set_option maxHeartbeats 4000000 in
theorem c_X9_sheetOf {l : Launch} {G : GG} {b : Nat} {ad : Nat → Nat} {nt : Nat} {z : Nat → Nat} {p0 : Int32} {m0 : Mem} {r9 : Option Nat} {m9 : Mem} (hf : X9_sheetOf p0 m0 = some (r9, m9)) : MtQ l yX9_sheetOf cX9_sheetOf 2 (some (.object "PaidInKind$Sheet")) rmX9_sheetOf G b (sg ad nt z) m0 [.ref (ad 0), .int p0] (pEQ (r9.map ad) (sg ad nt z) m9) := by
  refine mtQ_of (by decide) (Nat.le_of_ble_eq_true rfl) ((.object "PaidInKind$Sheet")) rfl (by first | exact Or.inl ⟨_, rfl⟩ | exact Or.inr ⟨_, rfl⟩) (fun Γ hG X hnm hr => ?_)
  have hret : ∀ (pc : Nat) (lv : List (Nat × Value)), decode cX9_sheetOf pc = .ok (.areturn, 1) → Go Γ b (sg ad nt z) 0 0 pc lv [va_rf (r9.map ad)] m9 := fun pc lv d => hr pc lv _ _ _ d ⟨rfl, rfl, rfl⟩
  show Go Γ b (sg ad nt z) 0 0 0 [(0, .ref (ad 0)), (1, .int p0)] [] m0
  refine g_iload_n X 1 dX9_sheetOf_0 rfl rfl ?_
  refine g_if_lt X (tgt := 18) dX9_sheetOf_1 (by decide) (fun c1 => ?_) (fun c1 => ?_)
  · have hf := it c1 hf
    refine g_null X dX9_sheetOf_18 ?_
    obtain ⟨rfl, rfl⟩ := lf2 hf
    exact hret 19 _ dX9_sheetOf_19
  · have hf := ie c1 hf
    refine g_iload_n X 1 dX9_sheetOf_4 rfl rfl ?_
    refine g_iconst X (v := 4) dX9_sheetOf_5 (by decide) ?_
    refine g_icmp_ge X (tgt := 18) dX9_sheetOf_6 (by decide) (fun c6 => ?_) (fun c6 => ?_)
    · have hf := it c6 hf
      refine g_null X dX9_sheetOf_18 ?_
      obtain ⟨rfl, rfl⟩ := lf2 hf
      exact hret 19 _ dX9_sheetOf_19
    · have hf := ie c6 hf
      refine g_aload_n X 0 dX9_sheetOf_9 rfl rfl ?_
      refine g_getr X (x := ad 51) 0 8 9 dX9_sheetOf_10 (sgN (by decide)) rfl (by decide) rfl iw_X9 (by decide) rfl q_fl_X9_63 rfl ?_
      refine g_iload_n X 1 dX9_sheetOf_13 rfl rfl ?_
      obtain ⟨h14, hf⟩ := grd hf
      obtain ⟨w14, ew14, hf⟩ := wi_i hf
      have fw14 : isS w14 := by rw [ew14]; exact S_is (inn_lt h14)
      refine g_aaldr12 X 51 (n := 4) (x := ad w14) dX9_sheetOf_14 (sgN (by decide)) rfl rfl h14 (by rw [ew14]; exact S_at (inn_lt h14)) ?_
      refine g_goto X (tgt := 19) dX9_sheetOf_15 (by decide) ?_
      obtain ⟨rfl, rfl⟩ := lf2 hf
      exact hret 19 _ dX9_sheetOf_19

theorem shOk {s : Int32} {m m1 : Mem} {r : Option Nat} (h : X9_sheetOf s m = some (r, m1)) : ∀ a, r = some a → isS a := by
  intro a ha
  subst ha
  unfold X9_sheetOf at h
  repeat' split at h
  all_goals first
    | (cases h; done)
    | (obtain ⟨h1, -⟩ := lf2 h; cases h1; done)
    | (obtain ⟨w, e, h⟩ := wi_i h; obtain ⟨h1, -⟩ := lf2 h; rw [Option.some.inj h1, e]; exact S_is (inn_lt (by assumption)))

def X9_firstOtherwise_3 (nt : Nat) (z : Nat → Nat) (s : Nat) (f : Nat) : Nat → Int32 → Int32 → Mem → Option (Int32 × Mem)
  | 0, _, _, _ => none
  | n + 1, v3, v4, m0 =>
    if (8 : Int32) ≤ v4 then
      some ((-1 : Int32), m0)
    else
      if inn v4 40 then
      bi (X2_worth nt z f v3 v4 m0) fun r25 m25 =>
      if (m0.1 (s + 1) v4.toNatClampNeg) = r25 then
        X9_firstOtherwise_3 nt z s f n v3 (v4 + (1 : Int32)) m25
      else
        some (v4, m25)
      else none
def X9_firstOtherwise (nt : Nat) (z : Nat → Nat) (s : Nat) (f : Nat) (p2 : Int32) (m0 : Mem) : Option (Int32 × Mem) :=
  X9_firstOtherwise_3 nt z s f 10000 p2 (0 : Int32) m0
abbrev rmX9_firstOtherwise : Room := { frames := 4, cells := 0, slots := 0, locals := 113 }
set_option maxRecDepth 100000 in
set_option maxHeartbeats 4000000 in
theorem w_X9_firstOtherwise_3 {Γ : Ga} {b : Nat} {ad : Nat → Nat} {nt : Nat} {z : Nat → Nat} {s : Nat} {f : Nat} {r9 : Int32} {m9 : Mem} (hs9 : isS s) (hf9 : isF f) (X : Cx Γ b cX9_firstOtherwise 5 RX9 (some .int) rmX9_firstOtherwise) (hret : ∀ (pc : Nat) (lv : List (Nat × Value)), decode cX9_firstOtherwise pc = .ok (.ireturn, 1) → narrow .int (.int r9) = .int r9 → Go Γ b (sg ad nt z) 0 0 pc lv [.int r9] m9) : ∀ (n : Nat) (v3 : Int32) (v4 : Int32) (m0 : Mem), X9_firstOtherwise_3 nt z s f n v3 v4 m0 = some (r9, m9) → Go Γ b (sg ad nt z) 0 0 3 [(0, .ref (ad 0)), (1, .ref (ad s)), (2, .ref (ad f)), (3, .int v3), (4, .int v4)] [] m0 := by
  intro n
  induction n with
  | zero =>
    intro v3 v4 m0 hf
    cases hf
  | succ n ih =>
    intro v3 v4 m0 hf
    refine g_iload X 4 dX9_firstOtherwise_3 rfl ?_
    refine g_bipush X (v := 8) dX9_firstOtherwise_5 (by decide) ?_
    refine g_icmp_ge X (tgt := 40) dX9_firstOtherwise_7 (by decide) (fun c7 => ?_) (fun c7 => ?_)
    · have hf := it c7 hf
      refine g_iconst X (v := -1) dX9_firstOtherwise_40 (by decide) ?_
      obtain ⟨rfl, rfl⟩ := lf2 hf
      exact hret 41 _ dX9_firstOtherwise_41 rfl
    · have hf := ie c7 hf
      refine g_aload_n X 1 dX9_firstOtherwise_10 rfl rfl ?_
      refine g_getr X (x := ad (s + 1)) s 5 2 dX9_firstOtherwise_11 (S_lt0 hs9) (S_kd0 hs9) (by decide) rfl iw_X6 (by decide) rfl q_fl_X9_214 (S_r2 hs9) ?_
      refine g_iload X 4 dX9_firstOtherwise_14 rfl ?_
      obtain ⟨h16, hf⟩ := grd hf
      refine g_iald X (s + 1) (n := 40) dX9_firstOtherwise_16 (S_lt1 hs9) (S_kd1 hs9) (S_ln1 hs9) h16 ?_
      refine g_aload_n X 0 dX9_firstOtherwise_17 rfl rfl ?_
      refine g_getr X (x := ad 50) 0 8 8 dX9_firstOtherwise_18 (sgN (by decide)) rfl (by decide) rfl iw_X9 (by decide) rfl q_fl_X9_57 rfl ?_
      refine g_aload_n X 2 dX9_firstOtherwise_21 rfl rfl ?_
      refine g_iload_n X 3 dX9_firstOtherwise_22 rfl rfl ?_
      refine g_iload X 4 dX9_firstOtherwise_23 rfl ?_
      obtain ⟨r25, m25, h25, hf⟩ := bi_i hf
      refine g_eVI X 50 1 [.ref (ad f), .int v3, .int v4] kV_X9_129 (c_X2_worth hf9 h25) dX9_firstOtherwise_25 rfl rfl (sgN (by decide)) rfl (by decide) rfl rfl ⟨(Nat.le_of_ble_eq_true rfl), (Nat.le_of_ble_eq_true rfl)⟩ ⟨rfl, rfl⟩ ⟨(Nat.zero_le _), (Nat.zero_le _)⟩ (Nat.le_of_ble_eq_true rfl) ?_
      refine g_icmp_eq X (tgt := 34) dX9_firstOtherwise_28 (by decide) (fun c28 => ?_) (fun c28 => ?_)
      · have hf := it c28 hf
        refine g_iinc X 4 (v := v4 + (1 : Int32)) (lv' := [(4, .int (v4 + (1 : Int32))), (0, .ref (ad 0)), (1, .ref (ad s)), (2, .ref (ad f)), (3, .int v3)]) dX9_firstOtherwise_34 rfl rfl (by decide) rfl ?_
        refine g_goto X (tgt := 3) dX9_firstOtherwise_37 (by decide) ?_
        refine g_pick [1, 2, 3, 4, 0] (lv' := [(0, .ref (ad 0)), (1, .ref (ad s)), (2, .ref (ad f)), (3, .int v3), (4, .int (v4 + (1 : Int32)))]) rfl ?_
        exact ih v3 (v4 + (1 : Int32)) m25 hf
      · have hf := ie c28 hf
        refine g_iload X 4 dX9_firstOtherwise_31 rfl ?_
        obtain ⟨rfl, rfl⟩ := lf2 hf
        exact hret 33 _ dX9_firstOtherwise_33 rfl
set_option maxRecDepth 100000 in
set_option maxHeartbeats 4000000 in
theorem c_X9_firstOtherwise {l : Launch} {G : GG} {b : Nat} {ad : Nat → Nat} {nt : Nat} {z : Nat → Nat} {s : Nat} {f : Nat} {p2 : Int32} {m0 : Mem} {r9 : Int32} {m9 : Mem} (hs9 : isS s) (hf9 : isF f) (hf : X9_firstOtherwise nt z s f p2 m0 = some (r9, m9)) : MtI l yX9_firstOtherwise cX9_firstOtherwise 5 (some .int) rmX9_firstOtherwise G b (sg ad nt z) m0 [.ref (ad 0), .ref (ad s), .ref (ad f), .int p2] (pEI r9 (sg ad nt z) m9) := by
  refine mtI_of (by decide) (Nat.le_of_ble_eq_true rfl) .int rfl (fun Γ hG X hnm hr => ?_)
  have hret : ∀ (pc : Nat) (lv : List (Nat × Value)), decode cX9_firstOtherwise pc = .ok (.ireturn, 1) → narrow .int (.int r9) = .int r9 → Go Γ b (sg ad nt z) 0 0 pc lv [.int r9] m9 := fun pc lv d hn => hr pc lv _ _ _ d ⟨rfl, rfl, rfl⟩ hn
  show Go Γ b (sg ad nt z) 0 0 0 [(0, .ref (ad 0)), (1, .ref (ad s)), (2, .ref (ad f)), (3, .int p2)] [] m0
  refine g_iconst X (v := 0) dX9_firstOtherwise_0 (by decide) ?_
  refine g_istore X (lv' := [(4, .int (0 : Int32)), (0, .ref (ad 0)), (1, .ref (ad s)), (2, .ref (ad f)), (3, .int p2)]) dX9_firstOtherwise_1 (by decide) rfl ?_
  refine g_pick [1, 2, 3, 4, 0] (lv' := [(0, .ref (ad 0)), (1, .ref (ad s)), (2, .ref (ad f)), (3, .int p2), (4, .int (0 : Int32))]) rfl ?_
  exact w_X9_firstOtherwise_3 hs9 hf9 X hret 10000 p2 (0 : Int32) m0 hf

def X9_choicesOf (p0 : Int32) (m0 : Mem) : Option (Int32 × Mem) :=
  if p0 = (1 : Int32) then
    some ((6 : Int32), m0)
  else
    if p0 = (2 : Int32) then
      some ((10 : Int32), m0)
    else
      if p0 = (3 : Int32) then
        some ((8 : Int32), m0)
      else
        if p0 = (4 : Int32) then
          some (m0.1 33 2, m0)
        else
          some (m0.1 5 0, m0)
abbrev rmX9_choicesOf : Room := { frames := 0, cells := 0, slots := 0, locals := 0 }

set_option maxRecDepth 100000 in
set_option maxHeartbeats 4000000 in
theorem c_X9_choicesOf {l : Launch} {G : GG} {b : Nat} {ad : Nat → Nat} {nt : Nat} {z : Nat → Nat} {p0 : Int32} {m0 : Mem} {r9 : Int32} {m9 : Mem} (hf : X9_choicesOf p0 m0 = some (r9, m9)) : MtI l yX9_choicesOf cX9_choicesOf 2 (some .int) rmX9_choicesOf G b (sg ad nt z) m0 [.ref (ad 0), .int p0] (pEI r9 (sg ad nt z) m9) := by
  refine mtI_of (by decide) (Nat.le_of_ble_eq_true rfl) .int rfl (fun Γ hG X hnm hr => ?_)
  have hret : ∀ (pc : Nat) (lv : List (Nat × Value)), decode cX9_choicesOf pc = .ok (.ireturn, 1) → narrow .int (.int r9) = .int r9 → Go Γ b (sg ad nt z) 0 0 pc lv [.int r9] m9 := fun pc lv d hn => hr pc lv _ _ _ d ⟨rfl, rfl, rfl⟩ hn
  show Go Γ b (sg ad nt z) 0 0 0 [(0, .ref (ad 0)), (1, .int p0)] [] m0
  refine g_iload_n X 1 dX9_choicesOf_0 rfl rfl ?_
  by_cases c1_0 : p0 = (1 : Int32)
  · have hf := it c1_0 hf
    refine g_tblIn X (tgt := 32) dX9_choicesOf_1 (by rw [c1_0]; decide) (by rw [c1_0]; decide) (off := 31) (by rw [c1_0]; rfl) (by decide) ?_
    refine g_bipush X (v := 6) dX9_choicesOf_32 (by decide) ?_
    obtain ⟨rfl, rfl⟩ := lf2 hf
    exact hret 34 _ dX9_choicesOf_34 rfl
  · have hf := ie c1_0 hf
    by_cases c1_1 : p0 = (2 : Int32)
    · have hf := it c1_1 hf
      refine g_tblIn X (tgt := 35) dX9_choicesOf_1 (by rw [c1_1]; decide) (by rw [c1_1]; decide) (off := 34) (by rw [c1_1]; rfl) (by decide) ?_
      refine g_bipush X (v := 10) dX9_choicesOf_35 (by decide) ?_
      obtain ⟨rfl, rfl⟩ := lf2 hf
      exact hret 37 _ dX9_choicesOf_37 rfl
    · have hf := ie c1_1 hf
      by_cases c1_2 : p0 = (3 : Int32)
      · have hf := it c1_2 hf
        refine g_tblIn X (tgt := 38) dX9_choicesOf_1 (by rw [c1_2]; decide) (by rw [c1_2]; decide) (off := 37) (by rw [c1_2]; rfl) (by decide) ?_
        refine g_bipush X (v := 8) dX9_choicesOf_38 (by decide) ?_
        obtain ⟨rfl, rfl⟩ := lf2 hf
        exact hret 40 _ dX9_choicesOf_40 rfl
      · have hf := ie c1_2 hf
        by_cases c1_3 : p0 = (4 : Int32)
        · have hf := it c1_3 hf
          refine g_tblIn X (tgt := 41) dX9_choicesOf_1 (by rw [c1_3]; decide) (by rw [c1_3]; decide) (off := 40) (by rw [c1_3]; rfl) (by decide) ?_
          refine g_aload_n X 0 dX9_choicesOf_41 rfl rfl ?_
          refine g_getr X (x := ad 33) 0 8 7 dX9_choicesOf_42 (sgN (by decide)) rfl (by decide) rfl iw_X9 (by decide) rfl q_fl_X9_48 rfl ?_
          refine g_getI X 33 4 2 dX9_choicesOf_45 (sgN (by decide)) rfl (by decide) rfl iw_X5 (by decide) rfl q_fl_X9_142 ?_
          obtain ⟨rfl, rfl⟩ := lf2 hf
          exact hret 48 _ dX9_choicesOf_48 rfl
        · have hf := ie c1_3 hf
          refine g_tblOut X (tgt := 49) dX9_choicesOf_1 (by have g0 := lv_neT (a := 1) c1_0 rfl; have g1 := lv_neT (a := 2) c1_1 rfl; have g2 := lv_neT (a := 3) c1_2 rfl; have g3 := lv_neT (a := 4) c1_3 rfl; omega) (by decide) ?_
          refine g_aload_n X 0 dX9_choicesOf_49 rfl rfl ?_
          refine g_getr X (x := ad 5) 0 8 1 dX9_choicesOf_50 (sgN (by decide)) rfl (by decide) rfl iw_X9 (by decide) rfl q_fl_X9_19 rfl ?_
          refine g_getI X 5 0 0 dX9_choicesOf_53 (sgN (by decide)) rfl (by decide) rfl iw_X0 (by decide) rfl q_fl_X9_165 ?_
          obtain ⟨rfl, rfl⟩ := lf2 hf
          exact hret 56 _ dX9_choicesOf_56 rfl

theorem kV_X9_217 : wcV RX9 217 RX9 yX9_choicesOf cX9_choicesOf 2 (some .int) 1 := ⟨q_ml_X9_217, q_im_yX9_choicesOf, q_se_yX9_choicesOf, q_in_X9, q_co_yX9_choicesOf, by decide +kernel⟩

theorem kV_X9_206 : wcV RX9 206 RX9 yX9_firstOtherwise cX9_firstOtherwise 5 (some .int) 3 := ⟨q_ml_X9_206, q_im_yX9_firstOtherwise, q_se_yX9_firstOtherwise, q_in_X9, q_co_yX9_firstOtherwise, by decide +kernel⟩

def X9_couldBe_146 (nt : Nat) (z : Nat → Nat) (s : Nat) (k24 : Int32 → Int32 → Int32 → Int32 → Int32 → Mem → Option (Int32 × Mem)) (v2 : Int32) (v3 : Int32) (v4 : Int32) (v5 : Int32) (v6 : Int32) (m0 : Mem) : Option (Int32 × Mem) :=
  k24 v2 v3 v4 v5 (v6 + (1 : Int32)) m0
def X9_couldBe_122 (nt : Nat) (z : Nat → Nat) (s : Nat) (k24 : Int32 → Int32 → Int32 → Int32 → Int32 → Mem → Option (Int32 × Mem)) (v2 : Int32) (v3 : Int32) (v4 : Int32) (v5 : Int32) (v6 : Int32) (v7 : Int32) (m0 : Mem) : Option (Int32 × Mem) :=
  bi (X9_firstOtherwise nt z s 23 v7 m0) fun r130 m130 =>
  if r130 = (-1 : Int32) then
    X9_couldBe_146 nt z s k24 v2 v3 v4 (v5 ||| ((1 : Int32) <<< (v6 &&& 31))) v6 m130
  else
    X9_couldBe_146 nt z s k24 v2 v3 v4 v5 v6 m130
def X9_couldBe_24 (nt : Nat) (z : Nat → Nat) (s : Nat) : Nat → Int32 → Int32 → Int32 → Int32 → Int32 → Mem → Option (Int32 × Mem)
  | 0, _, _, _, _, _, _ => none
  | n + 1, v2, v3, v4, v5, v6, m0 =>
    if v4 ≤ v6 then
      some (v5, m0)
    else
      if v3 = (1 : Int32) then
        if inn v2 6 then
        X9_couldBe_122 nt z s (X9_couldBe_24 nt z s n) v2 v3 v4 v5 v6 v2 (pI m0 24 v2.toNatClampNeg v6)
        else none
      else
        if v3 = (2 : Int32) then
          if inn v2 6 then
          X9_couldBe_122 nt z s (X9_couldBe_24 nt z s n) v2 v3 v4 v5 v6 v2 (pI m0 25 v2.toNatClampNeg v6)
          else none
        else
          if v3 = (3 : Int32) then
            if inn v2 6 then
            X9_couldBe_122 nt z s (X9_couldBe_24 nt z s n) v2 v3 v4 v5 v6 v2 (pI m0 26 v2.toNatClampNeg v6)
            else none
          else
            if v3 = (4 : Int32) then
              X9_couldBe_122 nt z s (X9_couldBe_24 nt z s n) v2 v3 v4 v5 v6 v2 (pI m0 23 2 v6)
            else
              X9_couldBe_122 nt z s (X9_couldBe_24 nt z s n) v2 v3 v4 v5 v6 v6 m0
def X9_couldBe (nt : Nat) (z : Nat → Nat) (s : Nat) (p1 : Int32) (p2 : Int32) (m0 : Mem) : Option (Int32 × Mem) :=
  bv (X0_become 23 5 m0) fun m8 =>
  bi (X9_choicesOf p2 m8) fun r13 m13 =>
  X9_couldBe_24 nt z s 10000 p1 p2 r13 (0 : Int32) (0 : Int32) m13
abbrev rmX9_couldBe : Room := { frames := 5, cells := 0, slots := 0, locals := 137 }
set_option maxRecDepth 100000 in
set_option maxHeartbeats 4000000 in
theorem w_X9_couldBe_146 {Γ : Ga} {b : Nat} {ad : Nat → Nat} {nt : Nat} {z : Nat → Nat} {s : Nat} {k24 : Int32 → Int32 → Int32 → Int32 → Int32 → Mem → Option (Int32 × Mem)} {r9 : Int32} {m9 : Mem} (hs9 : isS s) (X : Cx Γ b cX9_couldBe 8 RX9 (some .int) rmX9_couldBe) (hret : ∀ (pc : Nat) (lv : List (Nat × Value)), decode cX9_couldBe pc = .ok (.ireturn, 1) → narrow .int (.int r9) = .int r9 → Go Γ b (sg ad nt z) 0 0 pc lv [.int r9] m9) (hk24 : ∀ (v2 : Int32) (v3 : Int32) (v4 : Int32) (v5 : Int32) (v6 : Int32) (m0 : Mem), k24 v2 v3 v4 v5 v6 m0 = some (r9, m9) → Go Γ b (sg ad nt z) 0 0 24 [(0, .ref (ad 0)), (1, .ref (ad s)), (2, .int v2), (3, .int v3), (4, .int v4), (5, .int v5), (6, .int v6)] [] m0) (v2 : Int32) (v3 : Int32) (v4 : Int32) (v5 : Int32) (v6 : Int32) (m0 : Mem) (hf : X9_couldBe_146 nt z s k24 v2 v3 v4 v5 v6 m0 = some (r9, m9)) : Go Γ b (sg ad nt z) 0 0 146 [(0, .ref (ad 0)), (1, .ref (ad s)), (2, .int v2), (3, .int v3), (4, .int v4), (5, .int v5), (6, .int v6)] [] m0 := by
  refine g_iinc X 6 (v := v6 + (1 : Int32)) (lv' := [(6, .int (v6 + (1 : Int32))), (0, .ref (ad 0)), (1, .ref (ad s)), (2, .int v2), (3, .int v3), (4, .int v4), (5, .int v5)]) dX9_couldBe_146 rfl rfl (by decide) rfl ?_
  refine g_goto X (tgt := 24) dX9_couldBe_149 (by decide) ?_
  refine g_pick [1, 2, 3, 4, 5, 6, 0] (lv' := [(0, .ref (ad 0)), (1, .ref (ad s)), (2, .int v2), (3, .int v3), (4, .int v4), (5, .int v5), (6, .int (v6 + (1 : Int32)))]) rfl ?_
  exact hk24 v2 v3 v4 v5 (v6 + (1 : Int32)) m0 hf
set_option maxRecDepth 100000 in
set_option maxHeartbeats 4000000 in
theorem w_X9_couldBe_122 {Γ : Ga} {b : Nat} {ad : Nat → Nat} {nt : Nat} {z : Nat → Nat} {s : Nat} {k24 : Int32 → Int32 → Int32 → Int32 → Int32 → Mem → Option (Int32 × Mem)} {r9 : Int32} {m9 : Mem} (hs9 : isS s) (X : Cx Γ b cX9_couldBe 8 RX9 (some .int) rmX9_couldBe) (hret : ∀ (pc : Nat) (lv : List (Nat × Value)), decode cX9_couldBe pc = .ok (.ireturn, 1) → narrow .int (.int r9) = .int r9 → Go Γ b (sg ad nt z) 0 0 pc lv [.int r9] m9) (hk24 : ∀ (v2 : Int32) (v3 : Int32) (v4 : Int32) (v5 : Int32) (v6 : Int32) (m0 : Mem), k24 v2 v3 v4 v5 v6 m0 = some (r9, m9) → Go Γ b (sg ad nt z) 0 0 24 [(0, .ref (ad 0)), (1, .ref (ad s)), (2, .int v2), (3, .int v3), (4, .int v4), (5, .int v5), (6, .int v6)] [] m0) (v2 : Int32) (v3 : Int32) (v4 : Int32) (v5 : Int32) (v6 : Int32) (v7 : Int32) (m0 : Mem) (hf : X9_couldBe_122 nt z s k24 v2 v3 v4 v5 v6 v7 m0 = some (r9, m9)) : Go Γ b (sg ad nt z) 0 0 122 [(0, .ref (ad 0)), (1, .ref (ad s)), (2, .int v2), (3, .int v3), (4, .int v4), (5, .int v5), (6, .int v6), (7, .int v7)] [] m0 := by
  refine g_aload_n X 0 dX9_couldBe_122 rfl rfl ?_
  refine g_aload_n X 1 dX9_couldBe_123 rfl rfl ?_
  refine g_aload_n X 0 dX9_couldBe_124 rfl rfl ?_
  refine g_getr X (x := ad 23) 0 8 5 dX9_couldBe_125 (sgN (by decide)) rfl (by decide) rfl iw_X9 (by decide) rfl q_fl_X9_33 rfl ?_
  refine g_iload X 7 dX9_couldBe_128 rfl ?_
  obtain ⟨r130, m130, h130, hf⟩ := bi_i hf
  refine g_eVI X 0 8 [.ref (ad s), .ref (ad 23), .int v7] kV_X9_206 (c_X9_firstOtherwise hs9 (by unfold isF; decide) h130) dX9_couldBe_130 rfl rfl (sgN (by decide)) rfl (by decide) rfl rfl ⟨(Nat.le_of_ble_eq_true rfl), (Nat.le_of_ble_eq_true rfl)⟩ ⟨rfl, rfl⟩ ⟨(Nat.zero_le _), (Nat.zero_le _)⟩ (Nat.le_of_ble_eq_true rfl) ?_
  refine g_iconst X (v := -1) dX9_couldBe_133 (by decide) ?_
  refine g_icmp_ne X (tgt := 146) dX9_couldBe_134 (by decide) (fun c134 => ?_) (fun c134 => ?_)
  · have hf := ie c134 hf
    refine g_pick [0, 1, 2, 3, 4, 5, 6] (lv' := [(0, .ref (ad 0)), (1, .ref (ad s)), (2, .int v2), (3, .int v3), (4, .int v4), (5, .int v5), (6, .int v6)]) rfl ?_
    exact w_X9_couldBe_146 hs9 X hret hk24 v2 v3 v4 v5 v6 m130 hf
  · have hf := it c134 hf
    refine g_iload X 5 dX9_couldBe_137 rfl ?_
    refine g_iconst X (v := 1) dX9_couldBe_139 (by decide) ?_
    refine g_iload X 6 dX9_couldBe_140 rfl ?_
    refine g_ishl X dX9_couldBe_142 ?_
    refine g_ior X dX9_couldBe_143 ?_
    refine g_istore X (lv' := [(5, .int (v5 ||| ((1 : Int32) <<< (v6 &&& 31)))), (0, .ref (ad 0)), (1, .ref (ad s)), (2, .int v2), (3, .int v3), (4, .int v4), (6, .int v6), (7, .int v7)]) dX9_couldBe_144 (by decide) rfl ?_
    refine g_pick [1, 2, 3, 4, 5, 0, 6] (lv' := [(0, .ref (ad 0)), (1, .ref (ad s)), (2, .int v2), (3, .int v3), (4, .int v4), (5, .int (v5 ||| ((1 : Int32) <<< (v6 &&& 31)))), (6, .int v6)]) rfl ?_
    exact w_X9_couldBe_146 hs9 X hret hk24 v2 v3 v4 (v5 ||| ((1 : Int32) <<< (v6 &&& 31))) v6 m130 hf
set_option maxRecDepth 100000 in
set_option maxHeartbeats 4000000 in
theorem w_X9_couldBe_24 {Γ : Ga} {b : Nat} {ad : Nat → Nat} {nt : Nat} {z : Nat → Nat} {s : Nat} {r9 : Int32} {m9 : Mem} (hs9 : isS s) (X : Cx Γ b cX9_couldBe 8 RX9 (some .int) rmX9_couldBe) (hret : ∀ (pc : Nat) (lv : List (Nat × Value)), decode cX9_couldBe pc = .ok (.ireturn, 1) → narrow .int (.int r9) = .int r9 → Go Γ b (sg ad nt z) 0 0 pc lv [.int r9] m9) : ∀ (n : Nat) (v2 : Int32) (v3 : Int32) (v4 : Int32) (v5 : Int32) (v6 : Int32) (m0 : Mem), X9_couldBe_24 nt z s n v2 v3 v4 v5 v6 m0 = some (r9, m9) → Go Γ b (sg ad nt z) 0 0 24 [(0, .ref (ad 0)), (1, .ref (ad s)), (2, .int v2), (3, .int v3), (4, .int v4), (5, .int v5), (6, .int v6)] [] m0 := by
  intro n
  induction n with
  | zero =>
    intro v2 v3 v4 v5 v6 m0 hf
    cases hf
  | succ n ih =>
    intro v2 v3 v4 v5 v6 m0 hf
    refine g_iload X 6 dX9_couldBe_24 rfl ?_
    refine g_iload X 4 dX9_couldBe_26 rfl ?_
    refine g_icmp_ge X (tgt := 152) dX9_couldBe_28 (by decide) (fun c28 => ?_) (fun c28 => ?_)
    · have hf := it c28 hf
      refine g_iload X 5 dX9_couldBe_152 rfl ?_
      obtain ⟨rfl, rfl⟩ := lf2 hf
      exact hret 154 _ dX9_couldBe_154 rfl
    · have hf := ie c28 hf
      refine g_iload_n X 2 dX9_couldBe_31 rfl rfl ?_
      refine g_istore X (lv' := [(7, .int v2), (0, .ref (ad 0)), (1, .ref (ad s)), (2, .int v2), (3, .int v3), (4, .int v4), (5, .int v5), (6, .int v6)]) dX9_couldBe_32 (by decide) rfl ?_
      refine g_iload_n X 4 dX9_couldBe_34 rfl rfl ?_
      by_cases c35_0 : v3 = (1 : Int32)
      · have hf := it c35_0 hf
        refine g_tblIn X (tgt := 64) dX9_couldBe_35 (by rw [c35_0]; decide) (by rw [c35_0]; decide) (off := 29) (by rw [c35_0]; rfl) (by decide) ?_
        refine g_aload_n X 1 dX9_couldBe_64 rfl rfl ?_
        refine g_getr X (x := ad 23) 0 8 5 dX9_couldBe_65 (sgN (by decide)) rfl (by decide) rfl iw_X9 (by decide) rfl q_fl_X9_33 rfl ?_
        refine g_getr X (x := ad 24) 23 0 3 dX9_couldBe_68 (sgN (by decide)) rfl (by decide) rfl iw_X0 (by decide) rfl q_fl_X9_220 rfl ?_
        refine g_iload_n X 3 dX9_couldBe_71 rfl rfl ?_
        refine g_iload X 7 dX9_couldBe_72 rfl ?_
        obtain ⟨h74, hf⟩ := grd hf
        refine g_iast X 24 (n := 6) dX9_couldBe_74 (sgN (by decide)) rfl rfl h74 ?_
        refine g_goto X (tgt := 122) dX9_couldBe_75 (by decide) ?_
        refine g_pick [1, 2, 3, 4, 5, 6, 7, 0] (lv' := [(0, .ref (ad 0)), (1, .ref (ad s)), (2, .int v2), (3, .int v3), (4, .int v4), (5, .int v5), (6, .int v6), (7, .int v2)]) rfl ?_
        exact w_X9_couldBe_122 hs9 X hret ih v2 v3 v4 v5 v6 v2 (pI m0 24 v2.toNatClampNeg v6) hf
      · have hf := ie c35_0 hf
        by_cases c35_1 : v3 = (2 : Int32)
        · have hf := it c35_1 hf
          refine g_tblIn X (tgt := 78) dX9_couldBe_35 (by rw [c35_1]; decide) (by rw [c35_1]; decide) (off := 43) (by rw [c35_1]; rfl) (by decide) ?_
          refine g_aload_n X 1 dX9_couldBe_78 rfl rfl ?_
          refine g_getr X (x := ad 23) 0 8 5 dX9_couldBe_79 (sgN (by decide)) rfl (by decide) rfl iw_X9 (by decide) rfl q_fl_X9_33 rfl ?_
          refine g_getr X (x := ad 25) 23 0 4 dX9_couldBe_82 (sgN (by decide)) rfl (by decide) rfl iw_X0 (by decide) rfl q_fl_X9_223 rfl ?_
          refine g_iload_n X 3 dX9_couldBe_85 rfl rfl ?_
          refine g_iload X 7 dX9_couldBe_86 rfl ?_
          obtain ⟨h88, hf⟩ := grd hf
          refine g_iast X 25 (n := 6) dX9_couldBe_88 (sgN (by decide)) rfl rfl h88 ?_
          refine g_goto X (tgt := 122) dX9_couldBe_89 (by decide) ?_
          refine g_pick [1, 2, 3, 4, 5, 6, 7, 0] (lv' := [(0, .ref (ad 0)), (1, .ref (ad s)), (2, .int v2), (3, .int v3), (4, .int v4), (5, .int v5), (6, .int v6), (7, .int v2)]) rfl ?_
          exact w_X9_couldBe_122 hs9 X hret ih v2 v3 v4 v5 v6 v2 (pI m0 25 v2.toNatClampNeg v6) hf
        · have hf := ie c35_1 hf
          by_cases c35_2 : v3 = (3 : Int32)
          · have hf := it c35_2 hf
            refine g_tblIn X (tgt := 92) dX9_couldBe_35 (by rw [c35_2]; decide) (by rw [c35_2]; decide) (off := 57) (by rw [c35_2]; rfl) (by decide) ?_
            refine g_aload_n X 1 dX9_couldBe_92 rfl rfl ?_
            refine g_getr X (x := ad 23) 0 8 5 dX9_couldBe_93 (sgN (by decide)) rfl (by decide) rfl iw_X9 (by decide) rfl q_fl_X9_33 rfl ?_
            refine g_getr X (x := ad 26) 23 0 5 dX9_couldBe_96 (sgN (by decide)) rfl (by decide) rfl iw_X0 (by decide) rfl q_fl_X9_116 rfl ?_
            refine g_iload_n X 3 dX9_couldBe_99 rfl rfl ?_
            refine g_iload X 7 dX9_couldBe_100 rfl ?_
            obtain ⟨h102, hf⟩ := grd hf
            refine g_iast X 26 (n := 6) dX9_couldBe_102 (sgN (by decide)) rfl rfl h102 ?_
            refine g_goto X (tgt := 122) dX9_couldBe_103 (by decide) ?_
            refine g_pick [1, 2, 3, 4, 5, 6, 7, 0] (lv' := [(0, .ref (ad 0)), (1, .ref (ad s)), (2, .int v2), (3, .int v3), (4, .int v4), (5, .int v5), (6, .int v6), (7, .int v2)]) rfl ?_
            exact w_X9_couldBe_122 hs9 X hret ih v2 v3 v4 v5 v6 v2 (pI m0 26 v2.toNatClampNeg v6) hf
          · have hf := ie c35_2 hf
            by_cases c35_3 : v3 = (4 : Int32)
            · have hf := it c35_3 hf
              refine g_tblIn X (tgt := 106) dX9_couldBe_35 (by rw [c35_3]; decide) (by rw [c35_3]; decide) (off := 71) (by rw [c35_3]; rfl) (by decide) ?_
              refine g_aload_n X 1 dX9_couldBe_106 rfl rfl ?_
              refine g_getr X (x := ad 23) 0 8 5 dX9_couldBe_107 (sgN (by decide)) rfl (by decide) rfl iw_X9 (by decide) rfl q_fl_X9_33 rfl ?_
              refine g_iload X 7 dX9_couldBe_110 rfl ?_
              refine g_putI X (tyf := tyX0) 23 0 2 dX9_couldBe_112 (sgN (by decide)) rfl (by decide) rfl iw_X0 (by decide) rfl q_fl_X9_148 tyX0_ok nmX0 rfl rfl rfl ?_
              refine g_goto X (tgt := 122) dX9_couldBe_115 (by decide) ?_
              refine g_pick [1, 2, 3, 4, 5, 6, 7, 0] (lv' := [(0, .ref (ad 0)), (1, .ref (ad s)), (2, .int v2), (3, .int v3), (4, .int v4), (5, .int v5), (6, .int v6), (7, .int v2)]) rfl ?_
              exact w_X9_couldBe_122 hs9 X hret ih v2 v3 v4 v5 v6 v2 (pI m0 23 2 v6) hf
            · have hf := ie c35_3 hf
              refine g_tblOut X (tgt := 118) dX9_couldBe_35 (by have g0 := lv_neT (a := 1) c35_0 rfl; have g1 := lv_neT (a := 2) c35_1 rfl; have g2 := lv_neT (a := 3) c35_2 rfl; have g3 := lv_neT (a := 4) c35_3 rfl; omega) (by decide) ?_
              refine g_iload X 7 dX9_couldBe_118 rfl ?_
              refine g_istore X (lv' := [(7, .int v6), (0, .ref (ad 0)), (1, .ref (ad s)), (2, .int v2), (3, .int v3), (4, .int v4), (5, .int v5), (6, .int v6)]) dX9_couldBe_120 (by decide) rfl ?_
              refine g_pick [1, 2, 3, 4, 5, 6, 7, 0] (lv' := [(0, .ref (ad 0)), (1, .ref (ad s)), (2, .int v2), (3, .int v3), (4, .int v4), (5, .int v5), (6, .int v6), (7, .int v6)]) rfl ?_
              exact w_X9_couldBe_122 hs9 X hret ih v2 v3 v4 v5 v6 v6 m0 hf
set_option maxRecDepth 100000 in
set_option maxHeartbeats 4000000 in
theorem c_X9_couldBe {l : Launch} {G : GG} {b : Nat} {ad : Nat → Nat} {nt : Nat} {z : Nat → Nat} {s : Nat} {p1 : Int32} {p2 : Int32} {m0 : Mem} {r9 : Int32} {m9 : Mem} (hs9 : isS s) (hf : X9_couldBe nt z s p1 p2 m0 = some (r9, m9)) : MtI l yX9_couldBe cX9_couldBe 8 (some .int) rmX9_couldBe G b (sg ad nt z) m0 [.ref (ad 0), .ref (ad s), .int p1, .int p2] (pEI r9 (sg ad nt z) m9) := by
  refine mtI_of (by decide) (Nat.le_of_ble_eq_true rfl) .int rfl (fun Γ hG X hnm hr => ?_)
  have hret : ∀ (pc : Nat) (lv : List (Nat × Value)), decode cX9_couldBe pc = .ok (.ireturn, 1) → narrow .int (.int r9) = .int r9 → Go Γ b (sg ad nt z) 0 0 pc lv [.int r9] m9 := fun pc lv d hn => hr pc lv _ _ _ d ⟨rfl, rfl, rfl⟩ hn
  show Go Γ b (sg ad nt z) 0 0 0 [(0, .ref (ad 0)), (1, .ref (ad s)), (2, .int p1), (3, .int p2)] [] m0
  refine g_aload_n X 0 dX9_couldBe_0 rfl rfl ?_
  refine g_getr X (x := ad 23) 0 8 5 dX9_couldBe_1 (sgN (by decide)) rfl (by decide) rfl iw_X9 (by decide) rfl q_fl_X9_33 rfl ?_
  refine g_aload_n X 0 dX9_couldBe_4 rfl rfl ?_
  refine g_getr X (x := ad 5) 0 8 1 dX9_couldBe_5 (sgN (by decide)) rfl (by decide) rfl iw_X9 (by decide) rfl q_fl_X9_19 rfl ?_
  obtain ⟨m8, h8, hf⟩ := bv_i hf
  refine g_eVV X 23 0 [.ref (ad 5)] kV_X9_166 (c_X0_become (by unfold isF; decide) (by unfold isF; decide) h8) dX9_couldBe_8 rfl rfl (sgN (by decide)) rfl (by decide) rfl rfl ⟨(Nat.le_of_ble_eq_true rfl), (Nat.le_of_ble_eq_true rfl)⟩ ⟨rfl, rfl⟩ ⟨(Nat.zero_le _), (Nat.zero_le _)⟩ (Nat.le_of_ble_eq_true rfl) ?_
  refine g_aload_n X 0 dX9_couldBe_11 rfl rfl ?_
  refine g_iload_n X 3 dX9_couldBe_12 rfl rfl ?_
  obtain ⟨r13, m13, h13, hf⟩ := bi_i hf
  refine g_eVI X 0 8 [.int p2] kV_X9_217 (c_X9_choicesOf h13) dX9_couldBe_13 rfl rfl (sgN (by decide)) rfl (by decide) rfl rfl ⟨(Nat.le_of_ble_eq_true rfl), (Nat.le_of_ble_eq_true rfl)⟩ ⟨rfl, rfl⟩ ⟨(Nat.zero_le _), (Nat.zero_le _)⟩ (Nat.le_of_ble_eq_true rfl) ?_
  refine g_istore X (lv' := [(4, .int r13), (0, .ref (ad 0)), (1, .ref (ad s)), (2, .int p1), (3, .int p2)]) dX9_couldBe_16 (by decide) rfl ?_
  refine g_iconst X (v := 0) dX9_couldBe_18 (by decide) ?_
  refine g_istore X (lv' := [(5, .int (0 : Int32)), (4, .int r13), (0, .ref (ad 0)), (1, .ref (ad s)), (2, .int p1), (3, .int p2)]) dX9_couldBe_19 (by decide) rfl ?_
  refine g_iconst X (v := 0) dX9_couldBe_21 (by decide) ?_
  refine g_istore X (lv' := [(6, .int (0 : Int32)), (5, .int (0 : Int32)), (4, .int r13), (0, .ref (ad 0)), (1, .ref (ad s)), (2, .int p1), (3, .int p2)]) dX9_couldBe_22 (by decide) rfl ?_
  refine g_pick [3, 4, 5, 6, 2, 1, 0] (lv' := [(0, .ref (ad 0)), (1, .ref (ad s)), (2, .int p1), (3, .int p2), (4, .int r13), (5, .int (0 : Int32)), (6, .int (0 : Int32))]) rfl ?_
  exact w_X9_couldBe_24 hs9 X hret 10000 p1 p2 r13 (0 : Int32) (0 : Int32) m13 hf

theorem kV_X9_197 : wcV RX9 197 RX9 yX9_sheetOf cX9_sheetOf 2 (some (.object "PaidInKind$Sheet")) 1 := ⟨q_ml_X9_197, q_im_yX9_sheetOf, q_se_yX9_sheetOf, q_in_X9, q_co_yX9_sheetOf, by decide +kernel⟩

theorem kV_X9_201 : wcV RX9 201 RX6 yX6_isMissing cX6_isMissing 1 (some .boolean) 0 := ⟨q_ml_X9_201, q_im_yX6_isMissing, q_se_yX6_isMissing, q_in_X6, q_co_yX6_isMissing, by decide +kernel⟩

theorem kV_X9_210 : wcV RX9 210 RX9 yX9_couldBe cX9_couldBe 8 (some .int) 3 := ⟨q_ml_X9_210, q_im_yX9_couldBe, q_se_yX9_couldBe, q_in_X9, q_co_yX9_couldBe, by decide +kernel⟩

def X9_tells (nt : Nat) (z : Nat → Nat) (p0 : Int32) (p1 : Int32) (p2 : Int32) (m0 : Mem) : Option (Int32 × Mem) :=
  bq (X9_sheetOf p0 m0) fun r2 m2 =>
  oq r2
    (some ((-2 : Int32), m2))
    (fun w2 =>
    bi (X9_isPerson p1 m2) fun r14 m14 =>
    if r14 = 0 then
      some ((-2 : Int32), m14)
    else
      if p2 < 0 then
        some ((-2 : Int32), m14)
      else
        if p2 ≤ (5 : Int32) then
          bi (X6_isMissing w2 m14) fun r34 m34 =>
          if r34 = 0 then
            if (m34.1 w2 1) = (8 : Int32) then
              if p2 = 0 then
                bi (X9_firstOtherwise nt z w2 5 p1 m34) fun r68 m68 =>
                some (r68, m68)
              else
                bi (X9_couldBe nt z w2 p1 p2 m34) fun r79 m79 =>
                some (r79, m79)
            else
              some ((-2 : Int32), m34)
          else
            some ((-11 : Int32), m34)
        else
          some ((-2 : Int32), m14))
abbrev rmX9_tells : Room := { frames := 6, cells := 0, slots := 0, locals := 164 }

set_option maxRecDepth 100000 in
set_option maxHeartbeats 4000000 in
theorem c_X9_tells {l : Launch} {G : GG} {b : Nat} {ad : Nat → Nat} {nt : Nat} {z : Nat → Nat} {p0 : Int32} {p1 : Int32} {p2 : Int32} {m0 : Mem} {r9 : Int32} {m9 : Mem} (hf : X9_tells nt z p0 p1 p2 m0 = some (r9, m9)) : MtI l yX9_tells cX9_tells 5 (some .int) rmX9_tells G b (sg ad nt z) m0 [.ref (ad 0), .int p0, .int p1, .int p2] (pEI r9 (sg ad nt z) m9) := by
  refine mtI_of (by decide) (Nat.le_of_ble_eq_true rfl) .int rfl (fun Γ hG X hnm hr => ?_)
  have hret : ∀ (pc : Nat) (lv : List (Nat × Value)), decode cX9_tells pc = .ok (.ireturn, 1) → narrow .int (.int r9) = .int r9 → Go Γ b (sg ad nt z) 0 0 pc lv [.int r9] m9 := fun pc lv d hn => hr pc lv _ _ _ d ⟨rfl, rfl, rfl⟩ hn
  show Go Γ b (sg ad nt z) 0 0 0 [(0, .ref (ad 0)), (1, .int p0), (2, .int p1), (3, .int p2)] [] m0
  refine g_aload_n X 0 dX9_tells_0 rfl rfl ?_
  refine g_iload_n X 1 dX9_tells_1 rfl rfl ?_
  obtain ⟨r2, m2, h2, hf⟩ := bq_i hf
  have ok2 := shOk h2
  cases r2 with
  | none =>
    refine g_eVQ X 0 8 [.int p0] kV_X9_197 (c_X9_sheetOf h2) dX9_tells_2 rfl rfl (sgN (by decide)) rfl (by decide) rfl rfl ⟨(Nat.le_of_ble_eq_true rfl), (Nat.le_of_ble_eq_true rfl)⟩ ⟨rfl, rfl⟩ ⟨(Nat.zero_le _), (Nat.zero_le _)⟩ (Nat.le_of_ble_eq_true rfl) ?_
    refine g_astoreN X (lv' := [(4, .null), (0, .ref (ad 0)), (1, .int p0), (2, .int p1), (3, .int p2)]) dX9_tells_5 (by decide) rfl ?_
    refine g_aloadN X 0 dX9_tells_7 rfl ?_
    refine g_ifnullN X (tgt := 29) dX9_tells_9 (by decide) ?_
    refine g_bipush X (v := -2) dX9_tells_29 (by decide) ?_
    obtain ⟨rfl, rfl⟩ := lf2 hf
    exact hret 31 _ dX9_tells_31 rfl
  | some w2 =>
    have fw2 : isS w2 := ok2 _ rfl
    refine g_eVQ X 0 8 [.int p0] kV_X9_197 (c_X9_sheetOf h2) dX9_tells_2 rfl rfl (sgN (by decide)) rfl (by decide) rfl rfl ⟨(Nat.le_of_ble_eq_true rfl), (Nat.le_of_ble_eq_true rfl)⟩ ⟨rfl, rfl⟩ ⟨(Nat.zero_le _), (Nat.zero_le _)⟩ (Nat.le_of_ble_eq_true rfl) ?_
    refine g_astore X (lv' := [(4, .ref (ad w2)), (0, .ref (ad 0)), (1, .int p0), (2, .int p1), (3, .int p2)]) dX9_tells_5 (by decide) rfl ?_
    refine g_aload X 0 dX9_tells_7 rfl ?_
    refine g_ifnull X dX9_tells_9 ?_
    refine g_aload_n X 1 dX9_tells_12 rfl rfl ?_
    refine g_iload_n X 3 dX9_tells_13 rfl rfl ?_
    obtain ⟨r14, m14, h14, hf⟩ := bi_i hf
    refine g_eVI X 0 8 [.int p1] kV_X9_86 (c_X9_isPerson h14) dX9_tells_14 rfl rfl (sgN (by decide)) rfl (by decide) rfl rfl ⟨(Nat.le_of_ble_eq_true rfl), (Nat.le_of_ble_eq_true rfl)⟩ ⟨rfl, rfl⟩ ⟨(Nat.zero_le _), (Nat.zero_le _)⟩ (Nat.le_of_ble_eq_true rfl) ?_
    refine g_if_eq X (tgt := 29) dX9_tells_17 (by decide) (fun c17 => ?_) (fun c17 => ?_)
    · have hf := it c17 hf
      refine g_bipush X (v := -2) dX9_tells_29 (by decide) ?_
      obtain ⟨rfl, rfl⟩ := lf2 hf
      exact hret 31 _ dX9_tells_31 rfl
    · have hf := ie c17 hf
      refine g_iload_n X 4 dX9_tells_20 rfl rfl ?_
      refine g_if_lt X (tgt := 29) dX9_tells_21 (by decide) (fun c21 => ?_) (fun c21 => ?_)
      · have hf := it c21 hf
        refine g_bipush X (v := -2) dX9_tells_29 (by decide) ?_
        obtain ⟨rfl, rfl⟩ := lf2 hf
        exact hret 31 _ dX9_tells_31 rfl
      · have hf := ie c21 hf
        refine g_iload_n X 4 dX9_tells_24 rfl rfl ?_
        refine g_iconst X (v := 5) dX9_tells_25 (by decide) ?_
        refine g_icmp_le X (tgt := 32) dX9_tells_26 (by decide) (fun c26 => ?_) (fun c26 => ?_)
        · have hf := it c26 hf
          refine g_aload X 0 dX9_tells_32 rfl ?_
          obtain ⟨r34, m34, h34, hf⟩ := bi_i hf
          refine g_eVI X w2 5 [] kV_X9_201 (c_X6_isMissing fw2 h34) dX9_tells_34 rfl rfl (S_lt0 fw2) (S_kd0 fw2) (by decide) rfl rfl ⟨(Nat.le_of_ble_eq_true rfl), (Nat.le_of_ble_eq_true rfl)⟩ ⟨rfl, rfl⟩ ⟨(Nat.zero_le _), (Nat.zero_le _)⟩ (Nat.le_of_ble_eq_true rfl) ?_
          refine g_if_eq X (tgt := 43) dX9_tells_37 (by decide) (fun c37 => ?_) (fun c37 => ?_)
          · have hf := it c37 hf
            refine g_aload X 0 dX9_tells_43 rfl ?_
            refine g_getI X w2 5 1 dX9_tells_45 (S_lt0 fw2) (S_kd0 fw2) (by decide) rfl iw_X6 (by decide) rfl q_fl_X9_205 ?_
            refine g_bipush X (v := 8) dX9_tells_48 (by decide) ?_
            refine g_icmp_eq X (tgt := 56) dX9_tells_50 (by decide) (fun c50 => ?_) (fun c50 => ?_)
            · have hf := it c50 hf
              refine g_iload_n X 4 dX9_tells_56 rfl rfl ?_
              refine g_if_ne X (tgt := 74) dX9_tells_57 (by decide) (fun c57 => ?_) (fun c57 => ?_)
              · have hf := ie c57 hf
                refine g_aload_n X 1 dX9_tells_74 rfl rfl ?_
                refine g_aload X 0 dX9_tells_75 rfl ?_
                refine g_iload_n X 3 dX9_tells_77 rfl rfl ?_
                refine g_iload_n X 4 dX9_tells_78 rfl rfl ?_
                obtain ⟨r79, m79, h79, hf⟩ := bi_i hf
                refine g_eVI X 0 8 [.ref (ad w2), .int p1, .int p2] kV_X9_210 (c_X9_couldBe fw2 h79) dX9_tells_79 rfl rfl (sgN (by decide)) rfl (by decide) rfl rfl ⟨(Nat.le_of_ble_eq_true rfl), (Nat.le_of_ble_eq_true rfl)⟩ ⟨rfl, rfl⟩ ⟨(Nat.zero_le _), (Nat.zero_le _)⟩ (Nat.le_of_ble_eq_true rfl) ?_
                obtain ⟨rfl, rfl⟩ := lf2 hf
                exact hret 82 _ dX9_tells_82 rfl
              · have hf := it c57 hf
                refine g_aload_n X 1 dX9_tells_60 rfl rfl ?_
                refine g_aload X 0 dX9_tells_61 rfl ?_
                refine g_aload_n X 1 dX9_tells_63 rfl rfl ?_
                refine g_getr X (x := ad 5) 0 8 1 dX9_tells_64 (sgN (by decide)) rfl (by decide) rfl iw_X9 (by decide) rfl q_fl_X9_19 rfl ?_
                refine g_iload_n X 3 dX9_tells_67 rfl rfl ?_
                obtain ⟨r68, m68, h68, hf⟩ := bi_i hf
                refine g_eVI X 0 8 [.ref (ad w2), .ref (ad 5), .int p1] kV_X9_206 (c_X9_firstOtherwise fw2 (by unfold isF; decide) h68) dX9_tells_68 rfl rfl (sgN (by decide)) rfl (by decide) rfl rfl ⟨(Nat.le_of_ble_eq_true rfl), (Nat.le_of_ble_eq_true rfl)⟩ ⟨rfl, rfl⟩ ⟨(Nat.zero_le _), (Nat.zero_le _)⟩ (Nat.le_of_ble_eq_true rfl) ?_
                refine g_goto X (tgt := 82) dX9_tells_71 (by decide) ?_
                obtain ⟨rfl, rfl⟩ := lf2 hf
                exact hret 82 _ dX9_tells_82 rfl
            · have hf := ie c50 hf
              refine g_bipush X (v := -2) dX9_tells_53 (by decide) ?_
              obtain ⟨rfl, rfl⟩ := lf2 hf
              exact hret 55 _ dX9_tells_55 rfl
          · have hf := ie c37 hf
            refine g_bipush X (v := -11) dX9_tells_40 (by decide) ?_
            obtain ⟨rfl, rfl⟩ := lf2 hf
            exact hret 42 _ dX9_tells_42 rfl
        · have hf := ie c26 hf
          refine g_bipush X (v := -2) dX9_tells_29 (by decide) ?_
          obtain ⟨rfl, rfl⟩ := lf2 hf
          exact hret 31 _ dX9_tells_31 rfl

theorem kV_X9_226 : wcV RX9 226 RX6 yX6_become cX6_become 3 (none) 2 := ⟨q_ml_X9_226, q_im_yX6_become, q_se_yX6_become, q_in_X6, q_co_yX6_become, by decide +kernel⟩

theorem kV_X9_229 : wcV RX9 229 RX6 yX6_put cX6_put 3 (none) 2 := ⟨q_ml_X9_229, q_im_yX6_put, q_se_yX6_put, q_in_X6, q_co_yX6_put, by decide +kernel⟩

def X9_film_34 (nt : Nat) (z : Nat → Nat) : Nat → Int32 → Nat → Int32 → Int32 → Mem → Option (Int32 × Mem)
  | 0, _, _, _, _, _ => none
  | n + 1, v2, xv3, v4, v5, m0 =>
    if (8 : Int32) ≤ v5 then
      some (v4, m0)
    else
      bi (X2_worth nt z 5 v2 v5 m0) fun r52 m52 =>
      bv (X6_put xv3 v5 r52 m52) fun m62 =>
      X9_film_34 nt z n v2 xv3 (v4 + r52) (v5 + (1 : Int32)) m62
def X9_film (nt : Nat) (z : Nat → Nat) (p0 : Int32) (p1 : Int32) (m0 : Mem) : Option (Int32 × Mem) :=
  bq (X9_sheetOf p0 m0) fun r2 m2 =>
  oq r2
    (some ((-2 : Int32), m2))
    (fun w2 =>
    bi (X9_isPerson p1 m2) fun r12 m12 =>
    if r12 = 0 then
      some ((-2 : Int32), m12)
    else
      bv (X6_become w2 (1 : Int32) (8 : Int32) m12) fun m25 =>
      X9_film_34 nt z 10000 p1 w2 (0 : Int32) (0 : Int32) m25)
abbrev rmX9_film : Room := { frames := 4, cells := 0, slots := 0, locals := 113 }
set_option maxRecDepth 100000 in
set_option maxHeartbeats 4000000 in
theorem w_X9_film_34 {Γ : Ga} {b : Nat} {ad : Nat → Nat} {nt : Nat} {z : Nat → Nat} {r9 : Int32} {m9 : Mem} (X : Cx Γ b cX9_film 7 RX9 (some .int) rmX9_film) (hret : ∀ (pc : Nat) (lv : List (Nat × Value)), decode cX9_film pc = .ok (.ireturn, 1) → narrow .int (.int r9) = .int r9 → Go Γ b (sg ad nt z) 0 0 pc lv [.int r9] m9) : ∀ (n : Nat) (v2 : Int32) (xv3 : Nat) (v4 : Int32) (v5 : Int32) (hxv3 : isS xv3) (m0 : Mem), X9_film_34 nt z n v2 xv3 v4 v5 m0 = some (r9, m9) → Go Γ b (sg ad nt z) 0 0 34 [(0, .ref (ad 0)), (2, .int v2), (3, .ref (ad xv3)), (4, .int v4), (5, .int v5)] [] m0 := by
  intro n
  induction n with
  | zero =>
    intro v2 xv3 v4 v5 hxv3 m0 hf
    cases hf
  | succ n ih =>
    intro v2 xv3 v4 v5 hxv3 m0 hf
    refine g_iload X 4 dX9_film_34 rfl ?_
    refine g_bipush X (v := 8) dX9_film_36 (by decide) ?_
    refine g_icmp_ge X (tgt := 78) dX9_film_38 (by decide) (fun c38 => ?_) (fun c38 => ?_)
    · have hf := it c38 hf
      refine g_iload X 3 dX9_film_78 rfl ?_
      obtain ⟨rfl, rfl⟩ := lf2 hf
      exact hret 80 _ dX9_film_80 rfl
    · have hf := ie c38 hf
      refine g_aload_n X 0 dX9_film_41 rfl rfl ?_
      refine g_getr X (x := ad 50) 0 8 8 dX9_film_42 (sgN (by decide)) rfl (by decide) rfl iw_X9 (by decide) rfl q_fl_X9_57 rfl ?_
      refine g_aload_n X 0 dX9_film_45 rfl rfl ?_
      refine g_getr X (x := ad 5) 0 8 1 dX9_film_46 (sgN (by decide)) rfl (by decide) rfl iw_X9 (by decide) rfl q_fl_X9_19 rfl ?_
      refine g_iload_n X 1 dX9_film_49 rfl rfl ?_
      refine g_iload X 4 dX9_film_50 rfl ?_
      obtain ⟨r52, m52, h52, hf⟩ := bi_i hf
      refine g_eVI X 50 1 [.ref (ad 5), .int v2, .int v5] kV_X9_129 (c_X2_worth (by unfold isF; decide) h52) dX9_film_52 rfl rfl (sgN (by decide)) rfl (by decide) rfl rfl ⟨(Nat.le_of_ble_eq_true rfl), (Nat.le_of_ble_eq_true rfl)⟩ ⟨rfl, rfl⟩ ⟨(Nat.zero_le _), (Nat.zero_le _)⟩ (Nat.le_of_ble_eq_true rfl) ?_
      refine g_istore X (lv' := [(6, .int r52), (0, .ref (ad 0)), (2, .int v2), (3, .ref (ad xv3)), (4, .int v4), (5, .int v5)]) dX9_film_55 (by decide) rfl ?_
      refine g_aload_n X 3 dX9_film_57 rfl rfl ?_
      refine g_iload X 5 dX9_film_58 rfl ?_
      refine g_iload X 0 dX9_film_60 rfl ?_
      obtain ⟨m62, h62, hf⟩ := bv_i hf
      refine g_eVV X xv3 5 [.int v5, .int r52] kV_X9_229 (c_X6_put hxv3 h62) dX9_film_62 rfl rfl (S_lt0 hxv3) (S_kd0 hxv3) (by decide) rfl rfl ⟨(Nat.le_of_ble_eq_true rfl), (Nat.le_of_ble_eq_true rfl)⟩ ⟨rfl, rfl⟩ ⟨(Nat.zero_le _), (Nat.zero_le _)⟩ (Nat.le_of_ble_eq_true rfl) ?_
      refine g_iload X 4 dX9_film_65 rfl ?_
      refine g_iload X 0 dX9_film_67 rfl ?_
      refine g_iadd X dX9_film_69 ?_
      refine g_istore X (lv' := [(4, .int (v4 + r52)), (6, .int r52), (0, .ref (ad 0)), (2, .int v2), (3, .ref (ad xv3)), (5, .int v5)]) dX9_film_70 (by decide) rfl ?_
      refine g_iinc X 5 (v := v5 + (1 : Int32)) (lv' := [(5, .int (v5 + (1 : Int32))), (4, .int (v4 + r52)), (6, .int r52), (0, .ref (ad 0)), (2, .int v2), (3, .ref (ad xv3))]) dX9_film_72 rfl rfl (by decide) rfl ?_
      refine g_goto X (tgt := 34) dX9_film_75 (by decide) ?_
      refine g_pick [3, 4, 5, 1, 0] (lv' := [(0, .ref (ad 0)), (2, .int v2), (3, .ref (ad xv3)), (4, .int (v4 + r52)), (5, .int (v5 + (1 : Int32)))]) rfl ?_
      exact ih v2 xv3 (v4 + r52) (v5 + (1 : Int32)) hxv3 m62 hf
set_option maxRecDepth 100000 in
set_option maxHeartbeats 4000000 in
theorem c_X9_film {l : Launch} {G : GG} {b : Nat} {ad : Nat → Nat} {nt : Nat} {z : Nat → Nat} {p0 : Int32} {p1 : Int32} {m0 : Mem} {r9 : Int32} {m9 : Mem} (hf : X9_film nt z p0 p1 m0 = some (r9, m9)) : MtI l yX9_film cX9_film 7 (some .int) rmX9_film G b (sg ad nt z) m0 [.ref (ad 0), .int p0, .int p1] (pEI r9 (sg ad nt z) m9) := by
  refine mtI_of (by decide) (Nat.le_of_ble_eq_true rfl) .int rfl (fun Γ hG X hnm hr => ?_)
  have hret : ∀ (pc : Nat) (lv : List (Nat × Value)), decode cX9_film pc = .ok (.ireturn, 1) → narrow .int (.int r9) = .int r9 → Go Γ b (sg ad nt z) 0 0 pc lv [.int r9] m9 := fun pc lv d hn => hr pc lv _ _ _ d ⟨rfl, rfl, rfl⟩ hn
  show Go Γ b (sg ad nt z) 0 0 0 [(0, .ref (ad 0)), (1, .int p0), (2, .int p1)] [] m0
  refine g_aload_n X 0 dX9_film_0 rfl rfl ?_
  refine g_iload_n X 1 dX9_film_1 rfl rfl ?_
  obtain ⟨r2, m2, h2, hf⟩ := bq_i hf
  have ok2 := shOk h2
  cases r2 with
  | none =>
    refine g_eVQ X 0 8 [.int p0] kV_X9_197 (c_X9_sheetOf h2) dX9_film_2 rfl rfl (sgN (by decide)) rfl (by decide) rfl rfl ⟨(Nat.le_of_ble_eq_true rfl), (Nat.le_of_ble_eq_true rfl)⟩ ⟨rfl, rfl⟩ ⟨(Nat.zero_le _), (Nat.zero_le _)⟩ (Nat.le_of_ble_eq_true rfl) ?_
    refine g_astore_nN X (lv' := [(3, .null), (0, .ref (ad 0)), (1, .int p0), (2, .int p1)]) dX9_film_5 rfl (by decide) rfl ?_
    refine g_aload_nN X 0 dX9_film_6 rfl rfl ?_
    refine g_ifnullN X (tgt := 18) dX9_film_7 (by decide) ?_
    refine g_bipush X (v := -2) dX9_film_18 (by decide) ?_
    obtain ⟨rfl, rfl⟩ := lf2 hf
    exact hret 20 _ dX9_film_20 rfl
  | some w2 =>
    have fw2 : isS w2 := ok2 _ rfl
    refine g_eVQ X 0 8 [.int p0] kV_X9_197 (c_X9_sheetOf h2) dX9_film_2 rfl rfl (sgN (by decide)) rfl (by decide) rfl rfl ⟨(Nat.le_of_ble_eq_true rfl), (Nat.le_of_ble_eq_true rfl)⟩ ⟨rfl, rfl⟩ ⟨(Nat.zero_le _), (Nat.zero_le _)⟩ (Nat.le_of_ble_eq_true rfl) ?_
    refine g_astore_n X (lv' := [(3, .ref (ad w2)), (0, .ref (ad 0)), (1, .int p0), (2, .int p1)]) dX9_film_5 rfl (by decide) rfl ?_
    refine g_aload_n X 0 dX9_film_6 rfl rfl ?_
    refine g_ifnull X dX9_film_7 ?_
    refine g_aload_n X 1 dX9_film_10 rfl rfl ?_
    refine g_iload_n X 3 dX9_film_11 rfl rfl ?_
    obtain ⟨r12, m12, h12, hf⟩ := bi_i hf
    refine g_eVI X 0 8 [.int p1] kV_X9_86 (c_X9_isPerson h12) dX9_film_12 rfl rfl (sgN (by decide)) rfl (by decide) rfl rfl ⟨(Nat.le_of_ble_eq_true rfl), (Nat.le_of_ble_eq_true rfl)⟩ ⟨rfl, rfl⟩ ⟨(Nat.zero_le _), (Nat.zero_le _)⟩ (Nat.le_of_ble_eq_true rfl) ?_
    refine g_if_ne X (tgt := 21) dX9_film_15 (by decide) (fun c15 => ?_) (fun c15 => ?_)
    · have hf := ie c15 hf
      refine g_aload_n X 0 dX9_film_21 rfl rfl ?_
      refine g_iconst X (v := 1) dX9_film_22 (by decide) ?_
      refine g_bipush X (v := 8) dX9_film_23 (by decide) ?_
      obtain ⟨m25, h25, hf⟩ := bv_i hf
      refine g_eVV X w2 5 [.int (1 : Int32), .int (8 : Int32)] kV_X9_226 (c_X6_become fw2 h25) dX9_film_25 rfl rfl (S_lt0 fw2) (S_kd0 fw2) (by decide) rfl rfl ⟨(Nat.le_of_ble_eq_true rfl), (Nat.le_of_ble_eq_true rfl)⟩ ⟨rfl, rfl⟩ ⟨(Nat.zero_le _), (Nat.zero_le _)⟩ (Nat.le_of_ble_eq_true rfl) ?_
      refine g_iconst X (v := 0) dX9_film_28 (by decide) ?_
      refine g_istore X (lv' := [(4, .int (0 : Int32)), (3, .ref (ad w2)), (0, .ref (ad 0)), (1, .int p0), (2, .int p1)]) dX9_film_29 (by decide) rfl ?_
      refine g_iconst X (v := 0) dX9_film_31 (by decide) ?_
      refine g_istore X (lv' := [(5, .int (0 : Int32)), (4, .int (0 : Int32)), (3, .ref (ad w2)), (0, .ref (ad 0)), (1, .int p0), (2, .int p1)]) dX9_film_32 (by decide) rfl ?_
      refine g_pick [3, 5, 2, 1, 0] (lv' := [(0, .ref (ad 0)), (2, .int p1), (3, .ref (ad w2)), (4, .int (0 : Int32)), (5, .int (0 : Int32))]) rfl ?_
      exact w_X9_film_34 X hret 10000 p1 w2 (0 : Int32) (0 : Int32) fw2 m25 hf
    · have hf := it c15 hf
      refine g_bipush X (v := -2) dX9_film_18 (by decide) ?_
      obtain ⟨rfl, rfl⟩ := lf2 hf
      exact hret 20 _ dX9_film_20 rfl

def X9_drawn_15 (nt : Nat) (z : Nat → Nat) : Nat → Int32 → Int32 → Mem → Option (Int32 × Mem)
  | 0, _, _, _ => none
  | n + 1, v2, v3, m0 =>
    if (m0.1 23 0) ≤ v3 then
      bi (X2_rounds nt z 23 (5 : Int32) (-1 : Int32) m0) fun r68 m68 =>
      bi (X0_ways 23 (-1 : Int32) m68) fun r77 m77 =>
      some (r77, m77)
    else
      if inn v3 6 then
      X9_drawn_15 nt z n ((v2 * (1103515245 : Int32)) + (12345 : Int32)) (v3 + (1 : Int32)) (pI m0 27 v3.toNatClampNeg (((((v2 * (1103515245 : Int32)) + (12345 : Int32)).toUInt32 >>> ((9 : Int32).toUInt32 &&& Int32.toUInt32 31)).toInt32) - ((((v2 * (1103515245 : Int32)) + (12345 : Int32)).toUInt32 >>> ((9 : Int32).toUInt32 &&& Int32.toUInt32 31)).toInt32) / (256 : Int32) * (256 : Int32)))
      else none
def X9_drawn (nt : Nat) (z : Nat → Nat) (p0 : Int32) (m0 : Mem) : Option (Int32 × Mem) :=
  bv (X0_become 23 5 m0) fun m8 =>
  X9_drawn_15 nt z 10000 p0 (0 : Int32) m8
abbrev rmX9_drawn : Room := { frames := 6, cells := 0, slots := 0, locals := 172 }
set_option maxRecDepth 100000 in
set_option maxHeartbeats 4000000 in
theorem w_X9_drawn_15 {Γ : Ga} {b : Nat} {ad : Nat → Nat} {nt : Nat} {z : Nat → Nat} {r9 : Int32} {m9 : Mem} (X : Cx Γ b cX9_drawn 4 RX9 (some .int) rmX9_drawn) (hret : ∀ (pc : Nat) (lv : List (Nat × Value)), decode cX9_drawn pc = .ok (.ireturn, 1) → narrow .int (.int r9) = .int r9 → Go Γ b (sg ad nt z) 0 0 pc lv [.int r9] m9) : ∀ (n : Nat) (v2 : Int32) (v3 : Int32) (m0 : Mem), X9_drawn_15 nt z n v2 v3 m0 = some (r9, m9) → Go Γ b (sg ad nt z) 0 0 15 [(0, .ref (ad 0)), (2, .int v2), (3, .int v3)] [] m0 := by
  intro n
  induction n with
  | zero =>
    intro v2 v3 m0 hf
    cases hf
  | succ n ih =>
    intro v2 v3 m0 hf
    refine g_iload_n X 2 dX9_drawn_15 rfl rfl ?_
    refine g_aload_n X 0 dX9_drawn_16 rfl rfl ?_
    refine g_getr X (x := ad 23) 0 8 5 dX9_drawn_17 (sgN (by decide)) rfl (by decide) rfl iw_X9 (by decide) rfl q_fl_X9_33 rfl ?_
    refine g_getI X 23 0 0 dX9_drawn_20 (sgN (by decide)) rfl (by decide) rfl iw_X0 (by decide) rfl q_fl_X9_165 ?_
    refine g_icmp_ge X (tgt := 58) dX9_drawn_23 (by decide) (fun c23 => ?_) (fun c23 => ?_)
    · have hf := it c23 hf
      refine g_aload_n X 0 dX9_drawn_58 rfl rfl ?_
      refine g_getr X (x := ad 50) 0 8 8 dX9_drawn_59 (sgN (by decide)) rfl (by decide) rfl iw_X9 (by decide) rfl q_fl_X9_57 rfl ?_
      refine g_aload_n X 0 dX9_drawn_62 rfl rfl ?_
      refine g_getr X (x := ad 23) 0 8 5 dX9_drawn_63 (sgN (by decide)) rfl (by decide) rfl iw_X9 (by decide) rfl q_fl_X9_33 rfl ?_
      refine g_iconst X (v := 5) dX9_drawn_66 (by decide) ?_
      refine g_iconst X (v := -1) dX9_drawn_67 (by decide) ?_
      obtain ⟨r68, m68, h68, hf⟩ := bi_i hf
      refine g_eVI X 50 1 [.ref (ad 23), .int (5 : Int32), .int (-1 : Int32)] kV_X9_162 (c_X2_rounds (by unfold isF; decide) h68) dX9_drawn_68 rfl rfl (sgN (by decide)) rfl (by decide) rfl rfl ⟨(Nat.le_of_ble_eq_true rfl), (Nat.le_of_ble_eq_true rfl)⟩ ⟨rfl, rfl⟩ ⟨(Nat.zero_le _), (Nat.zero_le _)⟩ (Nat.le_of_ble_eq_true rfl) ?_
      refine g_pop X dX9_drawn_71 rfl ?_
      refine g_aload_n X 0 dX9_drawn_72 rfl rfl ?_
      refine g_getr X (x := ad 23) 0 8 5 dX9_drawn_73 (sgN (by decide)) rfl (by decide) rfl iw_X9 (by decide) rfl q_fl_X9_33 rfl ?_
      refine g_iconst X (v := -1) dX9_drawn_76 (by decide) ?_
      obtain ⟨r77, m77, h77, hf⟩ := bi_i hf
      refine g_eVI X 23 0 [.int (-1 : Int32)] kV_X9_170 (c_X0_ways (by unfold isF; decide) h77) dX9_drawn_77 rfl rfl (sgN (by decide)) rfl (by decide) rfl rfl ⟨(Nat.le_of_ble_eq_true rfl), (Nat.le_of_ble_eq_true rfl)⟩ ⟨rfl, rfl⟩ ⟨(Nat.zero_le _), (Nat.zero_le _)⟩ (Nat.le_of_ble_eq_true rfl) ?_
      obtain ⟨rfl, rfl⟩ := lf2 hf
      exact hret 80 _ dX9_drawn_80 rfl
    · have hf := ie c23 hf
      refine g_iload_n X 1 dX9_drawn_26 rfl rfl ?_
      refine g_ldc X dX9_drawn_27 q_cn_X9_232 ?_
      refine g_imul X dX9_drawn_29 ?_
      refine g_sipush X (v := 12345) dX9_drawn_30 (by decide) ?_
      refine g_iadd X dX9_drawn_33 ?_
      refine g_istore_n X (lv' := [(2, .int ((v2 * (1103515245 : Int32)) + (12345 : Int32))), (0, .ref (ad 0)), (3, .int v3)]) dX9_drawn_34 rfl (by decide) rfl ?_
      refine g_aload_n X 1 dX9_drawn_35 rfl rfl ?_
      refine g_getr X (x := ad 23) 0 8 5 dX9_drawn_36 (sgN (by decide)) rfl (by decide) rfl iw_X9 (by decide) rfl q_fl_X9_33 rfl ?_
      refine g_getr X (x := ad 27) 23 0 6 dX9_drawn_39 (sgN (by decide)) rfl (by decide) rfl iw_X0 (by decide) rfl q_fl_X9_119 rfl ?_
      refine g_iload_n X 2 dX9_drawn_42 rfl rfl ?_
      refine g_iload_n X 0 dX9_drawn_43 rfl rfl ?_
      refine g_bipush X (v := 9) dX9_drawn_44 (by decide) ?_
      refine g_iushr X dX9_drawn_46 ?_
      refine g_sipush X (v := 256) dX9_drawn_47 (by decide) ?_
      refine g_irem X dX9_drawn_50 (by decide) ?_
      obtain ⟨h51, hf⟩ := grd hf
      refine g_iast X 27 (n := 6) dX9_drawn_51 (sgN (by decide)) rfl rfl h51 ?_
      refine g_iinc X 2 (v := v3 + (1 : Int32)) (lv' := [(3, .int (v3 + (1 : Int32))), (2, .int ((v2 * (1103515245 : Int32)) + (12345 : Int32))), (0, .ref (ad 0))]) dX9_drawn_52 rfl rfl (by decide) rfl ?_
      refine g_goto X (tgt := 15) dX9_drawn_55 (by decide) ?_
      refine g_pick [2, 1, 0] (lv' := [(0, .ref (ad 0)), (2, .int ((v2 * (1103515245 : Int32)) + (12345 : Int32))), (3, .int (v3 + (1 : Int32)))]) rfl ?_
      exact ih ((v2 * (1103515245 : Int32)) + (12345 : Int32)) (v3 + (1 : Int32)) (pI m0 27 v3.toNatClampNeg (((((v2 * (1103515245 : Int32)) + (12345 : Int32)).toUInt32 >>> ((9 : Int32).toUInt32 &&& Int32.toUInt32 31)).toInt32) - ((((v2 * (1103515245 : Int32)) + (12345 : Int32)).toUInt32 >>> ((9 : Int32).toUInt32 &&& Int32.toUInt32 31)).toInt32) / (256 : Int32) * (256 : Int32))) hf
set_option maxRecDepth 100000 in
set_option maxHeartbeats 4000000 in
theorem c_X9_drawn {l : Launch} {G : GG} {b : Nat} {ad : Nat → Nat} {nt : Nat} {z : Nat → Nat} {p0 : Int32} {m0 : Mem} {r9 : Int32} {m9 : Mem} (hf : X9_drawn nt z p0 m0 = some (r9, m9)) : MtI l yX9_drawn cX9_drawn 4 (some .int) rmX9_drawn G b (sg ad nt z) m0 [.ref (ad 0), .int p0] (pEI r9 (sg ad nt z) m9) := by
  refine mtI_of (by decide) (Nat.le_of_ble_eq_true rfl) .int rfl (fun Γ hG X hnm hr => ?_)
  have hret : ∀ (pc : Nat) (lv : List (Nat × Value)), decode cX9_drawn pc = .ok (.ireturn, 1) → narrow .int (.int r9) = .int r9 → Go Γ b (sg ad nt z) 0 0 pc lv [.int r9] m9 := fun pc lv d hn => hr pc lv _ _ _ d ⟨rfl, rfl, rfl⟩ hn
  show Go Γ b (sg ad nt z) 0 0 0 [(0, .ref (ad 0)), (1, .int p0)] [] m0
  refine g_aload_n X 0 dX9_drawn_0 rfl rfl ?_
  refine g_getr X (x := ad 23) 0 8 5 dX9_drawn_1 (sgN (by decide)) rfl (by decide) rfl iw_X9 (by decide) rfl q_fl_X9_33 rfl ?_
  refine g_aload_n X 0 dX9_drawn_4 rfl rfl ?_
  refine g_getr X (x := ad 5) 0 8 1 dX9_drawn_5 (sgN (by decide)) rfl (by decide) rfl iw_X9 (by decide) rfl q_fl_X9_19 rfl ?_
  obtain ⟨m8, h8, hf⟩ := bv_i hf
  refine g_eVV X 23 0 [.ref (ad 5)] kV_X9_166 (c_X0_become (by unfold isF; decide) (by unfold isF; decide) h8) dX9_drawn_8 rfl rfl (sgN (by decide)) rfl (by decide) rfl rfl ⟨(Nat.le_of_ble_eq_true rfl), (Nat.le_of_ble_eq_true rfl)⟩ ⟨rfl, rfl⟩ ⟨(Nat.zero_le _), (Nat.zero_le _)⟩ (Nat.le_of_ble_eq_true rfl) ?_
  refine g_iload_n X 1 dX9_drawn_11 rfl rfl ?_
  refine g_istore_n X (lv' := [(2, .int p0), (0, .ref (ad 0)), (1, .int p0)]) dX9_drawn_12 rfl (by decide) rfl ?_
  refine g_iconst X (v := 0) dX9_drawn_13 (by decide) ?_
  refine g_istore_n X (lv' := [(3, .int (0 : Int32)), (2, .int p0), (0, .ref (ad 0)), (1, .int p0)]) dX9_drawn_14 rfl (by decide) rfl ?_
  refine g_pick [2, 1, 0] (lv' := [(0, .ref (ad 0)), (2, .int p0), (3, .int (0 : Int32))]) rfl ?_
  exact w_X9_drawn_15 X hret 10000 p0 (0 : Int32) m8 hf

def X9_greatestDivisor_21 (k2 : Int32 → Int32 → Int32 → Mem → Option (Int32 × Mem)) (v0 : Int32) (v1 : Int32) (v2 : Int32) (m0 : Mem) : Option (Int32 × Mem) :=
  k2 v0 v1 (v2 + (-1 : Int32)) m0
def X9_greatestDivisor_2 : Nat → Int32 → Int32 → Int32 → Mem → Option (Int32 × Mem)
  | 0, _, _, _, _ => none
  | n + 1, v0, v1, v2, m0 =>
    if v2 ≤ (1 : Int32) then
      some ((1 : Int32), m0)
    else
      if ¬ v2 = 0 then
      if (v0 - v0 / v2 * v2) = 0 then
        if ¬ v2 = 0 then
        if (v1 - v1 / v2 * v2) = 0 then
          some (v2, m0)
        else
          X9_greatestDivisor_21 (X9_greatestDivisor_2 n) v0 v1 v2 m0
        else none
      else
        X9_greatestDivisor_21 (X9_greatestDivisor_2 n) v0 v1 v2 m0
      else none
def X9_greatestDivisor (p0 : Int32) (p1 : Int32) (m0 : Mem) : Option (Int32 × Mem) :=
  X9_greatestDivisor_2 10000 p0 p1 p1 m0
abbrev rmX9_greatestDivisor : Room := { frames := 0, cells := 0, slots := 0, locals := 0 }
set_option maxRecDepth 100000 in
set_option maxHeartbeats 4000000 in
theorem w_X9_greatestDivisor_21 {Γ : Ga} {b : Nat} {ad : Nat → Nat} {nt : Nat} {z : Nat → Nat} {k2 : Int32 → Int32 → Int32 → Mem → Option (Int32 × Mem)} {r9 : Int32} {m9 : Mem} (X : Cx Γ b cX9_greatestDivisor 3 RX9 (some .int) rmX9_greatestDivisor) (hret : ∀ (pc : Nat) (lv : List (Nat × Value)), decode cX9_greatestDivisor pc = .ok (.ireturn, 1) → narrow .int (.int r9) = .int r9 → Go Γ b (sg ad nt z) 0 0 pc lv [.int r9] m9) (hk2 : ∀ (v0 : Int32) (v1 : Int32) (v2 : Int32) (m0 : Mem), k2 v0 v1 v2 m0 = some (r9, m9) → Go Γ b (sg ad nt z) 0 0 2 [(0, .int v0), (1, .int v1), (2, .int v2)] [] m0) (v0 : Int32) (v1 : Int32) (v2 : Int32) (m0 : Mem) (hf : X9_greatestDivisor_21 k2 v0 v1 v2 m0 = some (r9, m9)) : Go Γ b (sg ad nt z) 0 0 21 [(0, .int v0), (1, .int v1), (2, .int v2)] [] m0 := by
  refine g_iinc X 2 (v := v2 + (-1 : Int32)) (lv' := [(2, .int (v2 + (-1 : Int32))), (0, .int v0), (1, .int v1)]) dX9_greatestDivisor_21 rfl rfl (by decide) rfl ?_
  refine g_goto X (tgt := 2) dX9_greatestDivisor_24 (by decide) ?_
  refine g_pick [1, 2, 0] (lv' := [(0, .int v0), (1, .int v1), (2, .int (v2 + (-1 : Int32)))]) rfl ?_
  exact hk2 v0 v1 (v2 + (-1 : Int32)) m0 hf
set_option maxRecDepth 100000 in
set_option maxHeartbeats 4000000 in
theorem w_X9_greatestDivisor_2 {Γ : Ga} {b : Nat} {ad : Nat → Nat} {nt : Nat} {z : Nat → Nat} {r9 : Int32} {m9 : Mem} (X : Cx Γ b cX9_greatestDivisor 3 RX9 (some .int) rmX9_greatestDivisor) (hret : ∀ (pc : Nat) (lv : List (Nat × Value)), decode cX9_greatestDivisor pc = .ok (.ireturn, 1) → narrow .int (.int r9) = .int r9 → Go Γ b (sg ad nt z) 0 0 pc lv [.int r9] m9) : ∀ (n : Nat) (v0 : Int32) (v1 : Int32) (v2 : Int32) (m0 : Mem), X9_greatestDivisor_2 n v0 v1 v2 m0 = some (r9, m9) → Go Γ b (sg ad nt z) 0 0 2 [(0, .int v0), (1, .int v1), (2, .int v2)] [] m0 := by
  intro n
  induction n with
  | zero =>
    intro v0 v1 v2 m0 hf
    cases hf
  | succ n ih =>
    intro v0 v1 v2 m0 hf
    refine g_iload_n X 2 dX9_greatestDivisor_2 rfl rfl ?_
    refine g_iconst X (v := 1) dX9_greatestDivisor_3 (by decide) ?_
    refine g_icmp_le X (tgt := 27) dX9_greatestDivisor_4 (by decide) (fun c4 => ?_) (fun c4 => ?_)
    · have hf := it c4 hf
      refine g_iconst X (v := 1) dX9_greatestDivisor_27 (by decide) ?_
      obtain ⟨rfl, rfl⟩ := lf2 hf
      exact hret 28 _ dX9_greatestDivisor_28 rfl
    · have hf := ie c4 hf
      refine g_iload_n X 0 dX9_greatestDivisor_7 rfl rfl ?_
      refine g_iload_n X 2 dX9_greatestDivisor_8 rfl rfl ?_
      obtain ⟨h9, hf⟩ := grd hf
      refine g_irem X dX9_greatestDivisor_9 h9 ?_
      refine g_if_ne X (tgt := 21) dX9_greatestDivisor_10 (by decide) (fun c10 => ?_) (fun c10 => ?_)
      · have hf := ie c10 hf
        exact w_X9_greatestDivisor_21 X hret ih v0 v1 v2 m0 hf
      · have hf := it c10 hf
        refine g_iload_n X 1 dX9_greatestDivisor_13 rfl rfl ?_
        refine g_iload_n X 2 dX9_greatestDivisor_14 rfl rfl ?_
        obtain ⟨h15, hf⟩ := grd hf
        refine g_irem X dX9_greatestDivisor_15 h15 ?_
        refine g_if_ne X (tgt := 21) dX9_greatestDivisor_16 (by decide) (fun c16 => ?_) (fun c16 => ?_)
        · have hf := ie c16 hf
          exact w_X9_greatestDivisor_21 X hret ih v0 v1 v2 m0 hf
        · have hf := it c16 hf
          refine g_iload_n X 2 dX9_greatestDivisor_19 rfl rfl ?_
          obtain ⟨rfl, rfl⟩ := lf2 hf
          exact hret 20 _ dX9_greatestDivisor_20 rfl
set_option maxRecDepth 100000 in
set_option maxHeartbeats 4000000 in
theorem c_X9_greatestDivisor {l : Launch} {G : GG} {b : Nat} {ad : Nat → Nat} {nt : Nat} {z : Nat → Nat} {p0 : Int32} {p1 : Int32} {m0 : Mem} {r9 : Int32} {m9 : Mem} (hf : X9_greatestDivisor p0 p1 m0 = some (r9, m9)) : MtI l yX9_greatestDivisor cX9_greatestDivisor 3 (some .int) rmX9_greatestDivisor G b (sg ad nt z) m0 [.int p0, .int p1] (pEI r9 (sg ad nt z) m9) := by
  refine mtI_of (by decide) (Nat.le_of_ble_eq_true rfl) .int rfl (fun Γ hG X hnm hr => ?_)
  have hret : ∀ (pc : Nat) (lv : List (Nat × Value)), decode cX9_greatestDivisor pc = .ok (.ireturn, 1) → narrow .int (.int r9) = .int r9 → Go Γ b (sg ad nt z) 0 0 pc lv [.int r9] m9 := fun pc lv d hn => hr pc lv _ _ _ d ⟨rfl, rfl, rfl⟩ hn
  show Go Γ b (sg ad nt z) 0 0 0 [(0, .int p0), (1, .int p1)] [] m0
  refine g_iload_n X 1 dX9_greatestDivisor_0 rfl rfl ?_
  refine g_istore_n X (lv' := [(2, .int p1), (0, .int p0), (1, .int p1)]) dX9_greatestDivisor_1 rfl (by decide) rfl ?_
  refine g_pick [1, 2, 0] (lv' := [(0, .int p0), (1, .int p1), (2, .int p1)]) rfl ?_
  exact w_X9_greatestDivisor_2 X hret 10000 p0 p1 p1 m0 hf

theorem kS_X9_238 : wcS RX9 238 yX9_greatestDivisor cX9_greatestDivisor 3 (some .int) 2 := ⟨q_ml_X9_238, q_st_yX9_greatestDivisor, q_in_X9, q_co_yX9_greatestDivisor, by decide +kernel⟩

theorem kV_X9_235 : wcV RX9 235 RX9 yX9_drawn cX9_drawn 4 (some .int) 1 := ⟨q_ml_X9_235, q_im_yX9_drawn, q_se_yX9_drawn, q_in_X9, q_co_yX9_drawn, by decide +kernel⟩

def X9_chance_63 (nt : Nat) (z : Nat → Nat) (k42 : Int32 → Int32 → Int32 → Int32 → Int32 → Int32 → Mem → Option (Int64 × Mem)) (v1 : Int32) (v2 : Int32) (v3 : Int32) (v4 : Int32) (v5 : Int32) (v6 : Int32) (m0 : Mem) : Option (Int64 × Mem) :=
  k42 v1 v2 v3 v4 v5 (v6 + (1 : Int32)) m0
def X9_chance_42 (nt : Nat) (z : Nat → Nat) : Nat → Int32 → Int32 → Int32 → Int32 → Int32 → Int32 → Mem → Option (Int64 × Mem)
  | 0, _, _, _, _, _, _, _ => none
  | n + 1, v1, v2, v3, v4, v5, v6, m0 =>
    if v2 ≤ v6 then
      bi (X9_greatestDivisor v5 v2 m0) fun r72 m72 =>
      if v4 = 0 then
        if ¬ r72 = 0 then
        some ((v5 / r72).toInt64, m72)
        else none
      else
        if ¬ r72 = 0 then
        some ((v2 / r72).toInt64, m72)
        else none
    else
      bi (X9_drawn nt z (v1 + v6) m0) fun r53 m53 =>
      if r53 < v3 then
        X9_chance_63 nt z (X9_chance_42 nt z n) v1 v2 v3 v4 v5 v6 m53
      else
        X9_chance_63 nt z (X9_chance_42 nt z n) v1 v2 v3 v4 (v5 + (1 : Int32)) v6 m53
def X9_chance (nt : Nat) (z : Nat → Nat) (p0 : Int32) (p1 : Int32) (p2 : Int32) (p3 : Int32) (m0 : Mem) : Option (Int64 × Mem) :=
  if p1 < (1 : Int32) then
    some ((-4611686018427387904 : Int64), m0)
  else
    if (20 : Int32) < p1 then
      some ((-4611686018427387904 : Int64), m0)
    else
      if p2 < 0 then
        some ((-4611686018427387904 : Int64), m0)
      else
        if (48 : Int32) < p2 then
          some ((-4611686018427387904 : Int64), m0)
        else
          if p3 < 0 then
            some ((-4611686018427387904 : Int64), m0)
          else
            if p3 ≤ (1 : Int32) then
              X9_chance_42 nt z 10000 p0 p1 p2 p3 (0 : Int32) (0 : Int32) m0
            else
              some ((-4611686018427387904 : Int64), m0)
abbrev rmX9_chance : Room := { frames := 7, cells := 0, slots := 0, locals := 195 }
set_option maxRecDepth 100000 in
set_option maxHeartbeats 4000000 in
theorem w_X9_chance_63 {Γ : Ga} {b : Nat} {ad : Nat → Nat} {nt : Nat} {z : Nat → Nat} {k42 : Int32 → Int32 → Int32 → Int32 → Int32 → Int32 → Mem → Option (Int64 × Mem)} {r9 : Int64} {m9 : Mem} (X : Cx Γ b cX9_chance 7 RX9 (some .long) rmX9_chance) (hret : ∀ (pc : Nat) (lv : List (Nat × Value)), decode cX9_chance pc = .ok (.lreturn, 1) → Go Γ b (sg ad nt z) 0 0 pc lv [.long r9] m9) (hk42 : ∀ (v1 : Int32) (v2 : Int32) (v3 : Int32) (v4 : Int32) (v5 : Int32) (v6 : Int32) (m0 : Mem), k42 v1 v2 v3 v4 v5 v6 m0 = some (r9, m9) → Go Γ b (sg ad nt z) 0 0 42 [(0, .ref (ad 0)), (1, .int v1), (2, .int v2), (3, .int v3), (4, .int v4), (5, .int v5), (6, .int v6)] [] m0) (v1 : Int32) (v2 : Int32) (v3 : Int32) (v4 : Int32) (v5 : Int32) (v6 : Int32) (m0 : Mem) (hf : X9_chance_63 nt z k42 v1 v2 v3 v4 v5 v6 m0 = some (r9, m9)) : Go Γ b (sg ad nt z) 0 0 63 [(0, .ref (ad 0)), (1, .int v1), (2, .int v2), (3, .int v3), (4, .int v4), (5, .int v5), (6, .int v6)] [] m0 := by
  refine g_iinc X 6 (v := v6 + (1 : Int32)) (lv' := [(6, .int (v6 + (1 : Int32))), (0, .ref (ad 0)), (1, .int v1), (2, .int v2), (3, .int v3), (4, .int v4), (5, .int v5)]) dX9_chance_63 rfl rfl (by decide) rfl ?_
  refine g_goto X (tgt := 42) dX9_chance_66 (by decide) ?_
  refine g_pick [1, 2, 3, 4, 5, 6, 0] (lv' := [(0, .ref (ad 0)), (1, .int v1), (2, .int v2), (3, .int v3), (4, .int v4), (5, .int v5), (6, .int (v6 + (1 : Int32)))]) rfl ?_
  exact hk42 v1 v2 v3 v4 v5 (v6 + (1 : Int32)) m0 hf
set_option maxRecDepth 100000 in
set_option maxHeartbeats 4000000 in
theorem w_X9_chance_42 {Γ : Ga} {b : Nat} {ad : Nat → Nat} {nt : Nat} {z : Nat → Nat} {r9 : Int64} {m9 : Mem} (X : Cx Γ b cX9_chance 7 RX9 (some .long) rmX9_chance) (hret : ∀ (pc : Nat) (lv : List (Nat × Value)), decode cX9_chance pc = .ok (.lreturn, 1) → Go Γ b (sg ad nt z) 0 0 pc lv [.long r9] m9) : ∀ (n : Nat) (v1 : Int32) (v2 : Int32) (v3 : Int32) (v4 : Int32) (v5 : Int32) (v6 : Int32) (m0 : Mem), X9_chance_42 nt z n v1 v2 v3 v4 v5 v6 m0 = some (r9, m9) → Go Γ b (sg ad nt z) 0 0 42 [(0, .ref (ad 0)), (1, .int v1), (2, .int v2), (3, .int v3), (4, .int v4), (5, .int v5), (6, .int v6)] [] m0 := by
  intro n
  induction n with
  | zero =>
    intro v1 v2 v3 v4 v5 v6 m0 hf
    cases hf
  | succ n ih =>
    intro v1 v2 v3 v4 v5 v6 m0 hf
    refine g_iload X 6 dX9_chance_42 rfl ?_
    refine g_iload_n X 2 dX9_chance_44 rfl rfl ?_
    refine g_icmp_ge X (tgt := 69) dX9_chance_45 (by decide) (fun c45 => ?_) (fun c45 => ?_)
    · have hf := it c45 hf
      refine g_iload X 5 dX9_chance_69 rfl ?_
      refine g_iload_n X 2 dX9_chance_71 rfl rfl ?_
      obtain ⟨r72, m72, h72, hf⟩ := bi_i hf
      refine g_eSI X [.int v5, .int v2] kS_X9_238 (c_X9_greatestDivisor h72) dX9_chance_72 rfl rfl ⟨(Nat.le_of_ble_eq_true rfl), (Nat.le_of_ble_eq_true rfl)⟩ ⟨rfl, rfl⟩ ⟨(Nat.zero_le _), (Nat.zero_le _)⟩ (Nat.le_of_ble_eq_true rfl) ?_
      refine g_istore X (lv' := [(6, .int r72), (0, .ref (ad 0)), (1, .int v1), (2, .int v2), (3, .int v3), (4, .int v4), (5, .int v5)]) dX9_chance_75 (by decide) rfl ?_
      refine g_iload X 5 dX9_chance_77 rfl ?_
      refine g_if_ne X (tgt := 91) dX9_chance_79 (by decide) (fun c79 => ?_) (fun c79 => ?_)
      · have hf := ie c79 hf
        refine g_iload_n X 3 dX9_chance_91 rfl rfl ?_
        refine g_iload X 0 dX9_chance_92 rfl ?_
        obtain ⟨h94, hf⟩ := grd hf
        refine g_idiv X dX9_chance_94 h94 ?_
        refine g_i2l X dX9_chance_95 ?_
        obtain ⟨rfl, rfl⟩ := lf2 hf
        exact hret 96 _ dX9_chance_96
      · have hf := it c79 hf
        refine g_iload X 6 dX9_chance_82 rfl ?_
        refine g_iload X 0 dX9_chance_84 rfl ?_
        obtain ⟨h86, hf⟩ := grd hf
        refine g_idiv X dX9_chance_86 h86 ?_
        refine g_i2l X dX9_chance_87 ?_
        refine g_goto X (tgt := 96) dX9_chance_88 (by decide) ?_
        obtain ⟨rfl, rfl⟩ := lf2 hf
        exact hret 96 _ dX9_chance_96
    · have hf := ie c45 hf
      refine g_aload_n X 0 dX9_chance_48 rfl rfl ?_
      refine g_iload_n X 1 dX9_chance_49 rfl rfl ?_
      refine g_iload X 6 dX9_chance_50 rfl ?_
      refine g_iadd X dX9_chance_52 ?_
      obtain ⟨r53, m53, h53, hf⟩ := bi_i hf
      refine g_eVI X 0 8 [.int (v1 + v6)] kV_X9_235 (c_X9_drawn h53) dX9_chance_53 rfl rfl (sgN (by decide)) rfl (by decide) rfl rfl ⟨(Nat.le_of_ble_eq_true rfl), (Nat.le_of_ble_eq_true rfl)⟩ ⟨rfl, rfl⟩ ⟨(Nat.zero_le _), (Nat.zero_le _)⟩ (Nat.le_of_ble_eq_true rfl) ?_
      refine g_iload_n X 3 dX9_chance_56 rfl rfl ?_
      refine g_icmp_lt X (tgt := 63) dX9_chance_57 (by decide) (fun c57 => ?_) (fun c57 => ?_)
      · have hf := it c57 hf
        exact w_X9_chance_63 X hret ih v1 v2 v3 v4 v5 v6 m53 hf
      · have hf := ie c57 hf
        refine g_iinc X 5 (v := v5 + (1 : Int32)) (lv' := [(5, .int (v5 + (1 : Int32))), (0, .ref (ad 0)), (1, .int v1), (2, .int v2), (3, .int v3), (4, .int v4), (6, .int v6)]) dX9_chance_60 rfl rfl (by decide) rfl ?_
        refine g_pick [1, 2, 3, 4, 5, 0, 6] (lv' := [(0, .ref (ad 0)), (1, .int v1), (2, .int v2), (3, .int v3), (4, .int v4), (5, .int (v5 + (1 : Int32))), (6, .int v6)]) rfl ?_
        exact w_X9_chance_63 X hret ih v1 v2 v3 v4 (v5 + (1 : Int32)) v6 m53 hf
set_option maxRecDepth 100000 in
set_option maxHeartbeats 4000000 in
theorem c_X9_chance {l : Launch} {G : GG} {b : Nat} {ad : Nat → Nat} {nt : Nat} {z : Nat → Nat} {p0 : Int32} {p1 : Int32} {p2 : Int32} {p3 : Int32} {m0 : Mem} {r9 : Int64} {m9 : Mem} (hf : X9_chance nt z p0 p1 p2 p3 m0 = some (r9, m9)) : MtL l yX9_chance cX9_chance 7 (some .long) rmX9_chance G b (sg ad nt z) m0 [.ref (ad 0), .int p0, .int p1, .int p2, .int p3] (pEL r9 (sg ad nt z) m9) := by
  refine mtL_of (by decide) (Nat.le_of_ble_eq_true rfl) rfl (fun Γ hG X hnm hr => ?_)
  have hret : ∀ (pc : Nat) (lv : List (Nat × Value)), decode cX9_chance pc = .ok (.lreturn, 1) → Go Γ b (sg ad nt z) 0 0 pc lv [.long r9] m9 := fun pc lv d => hr pc lv _ _ _ d ⟨rfl, rfl, rfl⟩
  show Go Γ b (sg ad nt z) 0 0 0 [(0, .ref (ad 0)), (1, .int p0), (2, .int p1), (3, .int p2), (4, .int p3)] [] m0
  refine g_iload_n X 2 dX9_chance_0 rfl rfl ?_
  refine g_iconst X (v := 1) dX9_chance_1 (by decide) ?_
  refine g_icmp_lt X (tgt := 32) dX9_chance_2 (by decide) (fun c2 => ?_) (fun c2 => ?_)
  · have hf := it c2 hf
    refine g_ldc2 X dX9_chance_32 q_cl_X9_233 ?_
    obtain ⟨rfl, rfl⟩ := lf2 hf
    exact hret 35 _ dX9_chance_35
  · have hf := ie c2 hf
    refine g_iload_n X 2 dX9_chance_5 rfl rfl ?_
    refine g_bipush X (v := 20) dX9_chance_6 (by decide) ?_
    refine g_icmp_gt X (tgt := 32) dX9_chance_8 (by decide) (fun c8 => ?_) (fun c8 => ?_)
    · have hf := it c8 hf
      refine g_ldc2 X dX9_chance_32 q_cl_X9_233 ?_
      obtain ⟨rfl, rfl⟩ := lf2 hf
      exact hret 35 _ dX9_chance_35
    · have hf := ie c8 hf
      refine g_iload_n X 3 dX9_chance_11 rfl rfl ?_
      refine g_if_lt X (tgt := 32) dX9_chance_12 (by decide) (fun c12 => ?_) (fun c12 => ?_)
      · have hf := it c12 hf
        refine g_ldc2 X dX9_chance_32 q_cl_X9_233 ?_
        obtain ⟨rfl, rfl⟩ := lf2 hf
        exact hret 35 _ dX9_chance_35
      · have hf := ie c12 hf
        refine g_iload_n X 3 dX9_chance_15 rfl rfl ?_
        refine g_bipush X (v := 48) dX9_chance_16 (by decide) ?_
        refine g_icmp_gt X (tgt := 32) dX9_chance_18 (by decide) (fun c18 => ?_) (fun c18 => ?_)
        · have hf := it c18 hf
          refine g_ldc2 X dX9_chance_32 q_cl_X9_233 ?_
          obtain ⟨rfl, rfl⟩ := lf2 hf
          exact hret 35 _ dX9_chance_35
        · have hf := ie c18 hf
          refine g_iload X 4 dX9_chance_21 rfl ?_
          refine g_if_lt X (tgt := 32) dX9_chance_23 (by decide) (fun c23 => ?_) (fun c23 => ?_)
          · have hf := it c23 hf
            refine g_ldc2 X dX9_chance_32 q_cl_X9_233 ?_
            obtain ⟨rfl, rfl⟩ := lf2 hf
            exact hret 35 _ dX9_chance_35
          · have hf := ie c23 hf
            refine g_iload X 4 dX9_chance_26 rfl ?_
            refine g_iconst X (v := 1) dX9_chance_28 (by decide) ?_
            refine g_icmp_le X (tgt := 36) dX9_chance_29 (by decide) (fun c29 => ?_) (fun c29 => ?_)
            · have hf := it c29 hf
              refine g_iconst X (v := 0) dX9_chance_36 (by decide) ?_
              refine g_istore X (lv' := [(5, .int (0 : Int32)), (0, .ref (ad 0)), (1, .int p0), (2, .int p1), (3, .int p2), (4, .int p3)]) dX9_chance_37 (by decide) rfl ?_
              refine g_iconst X (v := 0) dX9_chance_39 (by decide) ?_
              refine g_istore X (lv' := [(6, .int (0 : Int32)), (5, .int (0 : Int32)), (0, .ref (ad 0)), (1, .int p0), (2, .int p1), (3, .int p2), (4, .int p3)]) dX9_chance_40 (by decide) rfl ?_
              refine g_pick [2, 3, 4, 5, 6, 1, 0] (lv' := [(0, .ref (ad 0)), (1, .int p0), (2, .int p1), (3, .int p2), (4, .int p3), (5, .int (0 : Int32)), (6, .int (0 : Int32))]) rfl ?_
              exact w_X9_chance_42 X hret 10000 p0 p1 p2 p3 (0 : Int32) (0 : Int32) m0 hf
            · have hf := ie c29 hf
              refine g_ldc2 X dX9_chance_32 q_cl_X9_233 ?_
              obtain ⟨rfl, rfl⟩ := lf2 hf
              exact hret 35 _ dX9_chance_35

theorem kV_X9_241 : wcV RX9 241 RX4 yX4_become cX4_become 2 (none) 1 := ⟨q_ml_X9_241, q_im_yX4_become, q_se_yX4_become, q_in_X4, q_co_yX4_become, by decide +kernel⟩

def X9_image (m0 : Mem) : Option (Int32 × Mem) :=
  bv (X4_becomeK m0) fun m8 =>
  bv (X0_become 16 5 m8) fun m19 =>
  some ((pI m19 0 4 (1 : Int32)).1 5 0, pI m19 0 4 (1 : Int32))
abbrev rmX9_image : Room := { frames := 2, cells := 0, slots := 0, locals := 81 }

set_option maxRecDepth 100000 in
set_option maxHeartbeats 4000000 in
theorem c_X9_image {l : Launch} {G : GG} {b : Nat} {ad : Nat → Nat} {nt : Nat} {z : Nat → Nat} {m0 : Mem} {r9 : Int32} {m9 : Mem} (hf : X9_image m0 = some (r9, m9)) : MtI l yX9_image cX9_image 1 (some .int) rmX9_image G b (sg ad nt z) m0 [.ref (ad 0)] (pEI r9 (sg ad nt z) m9) := by
  refine mtI_of (by decide) (Nat.le_of_ble_eq_true rfl) .int rfl (fun Γ hG X hnm hr => ?_)
  have hret : ∀ (pc : Nat) (lv : List (Nat × Value)), decode cX9_image pc = .ok (.ireturn, 1) → narrow .int (.int r9) = .int r9 → Go Γ b (sg ad nt z) 0 0 pc lv [.int r9] m9 := fun pc lv d hn => hr pc lv _ _ _ d ⟨rfl, rfl, rfl⟩ hn
  show Go Γ b (sg ad nt z) 0 0 0 [(0, .ref (ad 0))] [] m0
  refine g_aload_n X 0 dX9_image_0 rfl rfl ?_
  refine g_getr X (x := ad 12) 0 8 2 dX9_image_1 (sgN (by decide)) rfl (by decide) rfl iw_X9 (by decide) rfl q_fl_X9_23 rfl ?_
  refine g_aload_n X 0 dX9_image_4 rfl rfl ?_
  refine g_getr X (x := ad 1) 0 8 0 dX9_image_5 (sgN (by decide)) rfl (by decide) rfl iw_X9 (by decide) rfl q_fl_X9_10 rfl ?_
  obtain ⟨m8, h8, hf⟩ := bv_i hf
  refine g_eVV X 12 3 [.ref (ad 1)] kV_X9_241 (c_X4_becomeK h8) dX9_image_8 rfl rfl (sgN (by decide)) rfl (by decide) rfl rfl ⟨(Nat.le_of_ble_eq_true rfl), (Nat.le_of_ble_eq_true rfl)⟩ ⟨rfl, rfl⟩ ⟨(Nat.zero_le _), (Nat.zero_le _)⟩ (Nat.le_of_ble_eq_true rfl) ?_
  refine g_aload_n X 0 dX9_image_11 rfl rfl ?_
  refine g_getr X (x := ad 16) 0 8 3 dX9_image_12 (sgN (by decide)) rfl (by decide) rfl iw_X9 (by decide) rfl q_fl_X9_26 rfl ?_
  refine g_aload_n X 0 dX9_image_15 rfl rfl ?_
  refine g_getr X (x := ad 5) 0 8 1 dX9_image_16 (sgN (by decide)) rfl (by decide) rfl iw_X9 (by decide) rfl q_fl_X9_19 rfl ?_
  obtain ⟨m19, h19, hf⟩ := bv_i hf
  refine g_eVV X 16 0 [.ref (ad 5)] kV_X9_166 (c_X0_become (by unfold isF; decide) (by unfold isF; decide) h19) dX9_image_19 rfl rfl (sgN (by decide)) rfl (by decide) rfl rfl ⟨(Nat.le_of_ble_eq_true rfl), (Nat.le_of_ble_eq_true rfl)⟩ ⟨rfl, rfl⟩ ⟨(Nat.zero_le _), (Nat.zero_le _)⟩ (Nat.le_of_ble_eq_true rfl) ?_
  refine g_aload_n X 0 dX9_image_22 rfl rfl ?_
  refine g_iconst X (v := 1) dX9_image_23 (by decide) ?_
  refine g_putI X (tyf := tyX9) 0 8 4 dX9_image_24 (sgN (by decide)) rfl (by decide) rfl iw_X9 (by decide) rfl q_fl_X9_29 tyX9_ok nmX9 rfl rfl rfl ?_
  refine g_aload_n X 0 dX9_image_27 rfl rfl ?_
  refine g_getr X (x := ad 5) 0 8 1 dX9_image_28 (sgN (by decide)) rfl (by decide) rfl iw_X9 (by decide) rfl q_fl_X9_19 rfl ?_
  refine g_getI X 5 0 0 dX9_image_31 (sgN (by decide)) rfl (by decide) rfl iw_X0 (by decide) rfl q_fl_X9_165 ?_
  obtain ⟨rfl, rfl⟩ := lf2 hf
  exact hret 34 _ dX9_image_34 rfl
