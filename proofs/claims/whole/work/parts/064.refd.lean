theorem kV_X10_372 : wcV RX10 372 RX10 yX10_payOf cX10_payOf 8 (some .int) 3 := ⟨q_ml_X10_372, q_im_yX10_payOf, q_se_yX10_payOf, q_in_X10, q_co_yX10_payOf, by decide +kernel⟩

def X10_pays (p0 : Int32) (p1 : Int32) (p2 : Int32) (m0 : Mem) : Option (Int32 × Mem) :=
  bi (X10_isOne p0 m0) fun r2 m2 =>
  if r2 = 0 then
    some ((-2 : Int32), m2)
  else
    bi (X10_isOne p1 m2) fun r10 m10 =>
    if r10 = 0 then
      some ((-2 : Int32), m10)
    else
      if p0 = p1 then
        some ((-2 : Int32), m10)
      else
        bi (X10_isPlace p2 m10) fun r22 m22 =>
        if r22 = 0 then
          some ((-2 : Int32), m22)
        else
          bi (X10_payOf p0 p1 p2 m22) fun r32 m32 =>
          some (r32, m32)
abbrev rmX10_pays : Room := { frames := 45, cells := 0, slots := 0, locals := 1006 }

set_option maxRecDepth 100000 in
set_option maxHeartbeats 4000000 in
theorem c_X10_pays {l : Launch} {G : GG} {b : Nat} {ad : Nat → Nat} {nt : Nat} {z : Nat → Nat} {p0 : Int32} {p1 : Int32} {p2 : Int32} {m0 : Mem} {r9 : Int32} {m9 : Mem} (hf : X10_pays p0 p1 p2 m0 = some (r9, m9)) : MtI l yX10_pays cX10_pays 4 (some .int) rmX10_pays G b (sg ad nt z) m0 [.ref (ad 63), .int p0, .int p1, .int p2] (pEI r9 (sg ad nt z) m9) := by
  refine mtI_of (by decide) (Nat.le_of_ble_eq_true rfl) .int rfl (fun Γ hG X hnm hr => ?_)
  have hret : ∀ (pc : Nat) (lv : List (Nat × Value)), decode cX10_pays pc = .ok (.ireturn, 1) → narrow .int (.int r9) = .int r9 → Go Γ b (sg ad nt z) 0 0 pc lv [.int r9] m9 := fun pc lv d hn => hr pc lv _ _ _ d ⟨rfl, rfl, rfl⟩ hn
  show Go Γ b (sg ad nt z) 0 0 0 [(0, .ref (ad 63)), (1, .int p0), (2, .int p1), (3, .int p2)] [] m0
  refine g_aload_n X 0 dX10_pays_0 rfl rfl ?_
  refine g_iload_n X 1 dX10_pays_1 rfl rfl ?_
  obtain ⟨r2, m2, h2, hf⟩ := bi_i hf
  refine g_eVI X 63 9 [.int p0] kV_X10_84 (c_X10_isOne h2) dX10_pays_2 rfl rfl (sgN (by decide)) rfl (by decide) rfl rfl ⟨(Nat.le_of_ble_eq_true rfl), (Nat.le_of_ble_eq_true rfl)⟩ ⟨rfl, rfl⟩ ⟨(Nat.zero_le _), (Nat.zero_le _)⟩ (Nat.le_of_ble_eq_true rfl) ?_
  refine g_if_eq X (tgt := 38) dX10_pays_5 (by decide) (fun c5 => ?_) (fun c5 => ?_)
  · have hf := it c5 hf
    refine g_bipush X (v := -2) dX10_pays_38 (by decide) ?_
    obtain ⟨rfl, rfl⟩ := lf2 hf
    exact hret 40 _ dX10_pays_40 rfl
  · have hf := ie c5 hf
    refine g_aload_n X 0 dX10_pays_8 rfl rfl ?_
    refine g_iload_n X 2 dX10_pays_9 rfl rfl ?_
    obtain ⟨r10, m10, h10, hf⟩ := bi_i hf
    refine g_eVI X 63 9 [.int p1] kV_X10_84 (c_X10_isOne h10) dX10_pays_10 rfl rfl (sgN (by decide)) rfl (by decide) rfl rfl ⟨(Nat.le_of_ble_eq_true rfl), (Nat.le_of_ble_eq_true rfl)⟩ ⟨rfl, rfl⟩ ⟨(Nat.zero_le _), (Nat.zero_le _)⟩ (Nat.le_of_ble_eq_true rfl) ?_
    refine g_if_eq X (tgt := 38) dX10_pays_13 (by decide) (fun c13 => ?_) (fun c13 => ?_)
    · have hf := it c13 hf
      refine g_bipush X (v := -2) dX10_pays_38 (by decide) ?_
      obtain ⟨rfl, rfl⟩ := lf2 hf
      exact hret 40 _ dX10_pays_40 rfl
    · have hf := ie c13 hf
      refine g_iload_n X 1 dX10_pays_16 rfl rfl ?_
      refine g_iload_n X 2 dX10_pays_17 rfl rfl ?_
      refine g_icmp_eq X (tgt := 38) dX10_pays_18 (by decide) (fun c18 => ?_) (fun c18 => ?_)
      · have hf := it c18 hf
        refine g_bipush X (v := -2) dX10_pays_38 (by decide) ?_
        obtain ⟨rfl, rfl⟩ := lf2 hf
        exact hret 40 _ dX10_pays_40 rfl
      · have hf := ie c18 hf
        refine g_iload_n X 3 dX10_pays_21 rfl rfl ?_
        obtain ⟨r22, m22, h22, hf⟩ := bi_i hf
        refine g_eSI X [.int p2] kS_X10_106 (c_X10_isPlace h22) dX10_pays_22 rfl rfl ⟨(Nat.le_of_ble_eq_true rfl), (Nat.le_of_ble_eq_true rfl)⟩ ⟨rfl, rfl⟩ ⟨(Nat.zero_le _), (Nat.zero_le _)⟩ (Nat.le_of_ble_eq_true rfl) ?_
        refine g_if_eq X (tgt := 38) dX10_pays_25 (by decide) (fun c25 => ?_) (fun c25 => ?_)
        · have hf := it c25 hf
          refine g_bipush X (v := -2) dX10_pays_38 (by decide) ?_
          obtain ⟨rfl, rfl⟩ := lf2 hf
          exact hret 40 _ dX10_pays_40 rfl
        · have hf := ie c25 hf
          refine g_aload_n X 0 dX10_pays_28 rfl rfl ?_
          refine g_iload_n X 1 dX10_pays_29 rfl rfl ?_
          refine g_iload_n X 2 dX10_pays_30 rfl rfl ?_
          refine g_iload_n X 3 dX10_pays_31 rfl rfl ?_
          obtain ⟨r32, m32, h32, hf⟩ := bi_i hf
          refine g_eVI X 63 9 [.int p0, .int p1, .int p2] kV_X10_372 (c_X10_payOf h32) dX10_pays_32 rfl rfl (sgN (by decide)) rfl (by decide) rfl rfl ⟨(Nat.le_of_ble_eq_true rfl), (Nat.le_of_ble_eq_true rfl)⟩ ⟨rfl, rfl⟩ ⟨(Nat.zero_le _), (Nat.zero_le _)⟩ (Nat.le_of_ble_eq_true rfl) ?_
          refine g_goto X (tgt := 40) dX10_pays_35 (by decide) ?_
          obtain ⟨rfl, rfl⟩ := lf2 hf
          exact hret 40 _ dX10_pays_40 rfl

theorem kV_X10_375 : wcV RX10 375 RX10 yX10_trades cX10_trades 7 (none) 4 := ⟨q_ml_X10_375, q_im_yX10_trades, q_se_yX10_trades, q_in_X10, q_co_yX10_trades, by decide +kernel⟩

def X10_trade (p0 : Int32) (p1 : Int32) (p2 : Int32) (m0 : Mem) : Option (Int32 × Mem) :=
  bi (X10_isOne p0 m0) fun r2 m2 =>
  if r2 = 0 then
    some ((-2 : Int32), m2)
  else
    bi (X10_isOne p1 m2) fun r10 m10 =>
    if r10 = 0 then
      some ((-2 : Int32), m10)
    else
      if p0 = p1 then
        some ((-2 : Int32), m10)
      else
        bi (X10_isPlace p2 m10) fun r22 m22 =>
        if r22 = 0 then
          some ((-2 : Int32), m22)
        else
          bi (X10_payOf p0 p1 p2 m22) fun r35 m35 =>
          if r35 = (-1 : Int32) then
            some ((-3 : Int32), m35)
          else
            bv (X10_trades p0 p1 p2 r35 m35) fun m55 =>
            some (r35, m55)
abbrev rmX10_trade : Room := { frames := 45, cells := 0, slots := 0, locals := 1006 }

set_option maxRecDepth 100000 in
set_option maxHeartbeats 4000000 in
theorem c_X10_trade {l : Launch} {G : GG} {b : Nat} {ad : Nat → Nat} {nt : Nat} {z : Nat → Nat} {p0 : Int32} {p1 : Int32} {p2 : Int32} {m0 : Mem} {r9 : Int32} {m9 : Mem} (hf : X10_trade p0 p1 p2 m0 = some (r9, m9)) : MtI l yX10_trade cX10_trade 5 (some .int) rmX10_trade G b (sg ad nt z) m0 [.ref (ad 63), .int p0, .int p1, .int p2] (pEI r9 (sg ad nt z) m9) := by
  refine mtI_of (by decide) (Nat.le_of_ble_eq_true rfl) .int rfl (fun Γ hG X hnm hr => ?_)
  have hret : ∀ (pc : Nat) (lv : List (Nat × Value)), decode cX10_trade pc = .ok (.ireturn, 1) → narrow .int (.int r9) = .int r9 → Go Γ b (sg ad nt z) 0 0 pc lv [.int r9] m9 := fun pc lv d hn => hr pc lv _ _ _ d ⟨rfl, rfl, rfl⟩ hn
  show Go Γ b (sg ad nt z) 0 0 0 [(0, .ref (ad 63)), (1, .int p0), (2, .int p1), (3, .int p2)] [] m0
  refine g_aload_n X 0 dX10_trade_0 rfl rfl ?_
  refine g_iload_n X 1 dX10_trade_1 rfl rfl ?_
  obtain ⟨r2, m2, h2, hf⟩ := bi_i hf
  refine g_eVI X 63 9 [.int p0] kV_X10_84 (c_X10_isOne h2) dX10_trade_2 rfl rfl (sgN (by decide)) rfl (by decide) rfl rfl ⟨(Nat.le_of_ble_eq_true rfl), (Nat.le_of_ble_eq_true rfl)⟩ ⟨rfl, rfl⟩ ⟨(Nat.zero_le _), (Nat.zero_le _)⟩ (Nat.le_of_ble_eq_true rfl) ?_
  refine g_if_eq X (tgt := 28) dX10_trade_5 (by decide) (fun c5 => ?_) (fun c5 => ?_)
  · have hf := it c5 hf
    refine g_bipush X (v := -2) dX10_trade_28 (by decide) ?_
    obtain ⟨rfl, rfl⟩ := lf2 hf
    exact hret 30 _ dX10_trade_30 rfl
  · have hf := ie c5 hf
    refine g_aload_n X 0 dX10_trade_8 rfl rfl ?_
    refine g_iload_n X 2 dX10_trade_9 rfl rfl ?_
    obtain ⟨r10, m10, h10, hf⟩ := bi_i hf
    refine g_eVI X 63 9 [.int p1] kV_X10_84 (c_X10_isOne h10) dX10_trade_10 rfl rfl (sgN (by decide)) rfl (by decide) rfl rfl ⟨(Nat.le_of_ble_eq_true rfl), (Nat.le_of_ble_eq_true rfl)⟩ ⟨rfl, rfl⟩ ⟨(Nat.zero_le _), (Nat.zero_le _)⟩ (Nat.le_of_ble_eq_true rfl) ?_
    refine g_if_eq X (tgt := 28) dX10_trade_13 (by decide) (fun c13 => ?_) (fun c13 => ?_)
    · have hf := it c13 hf
      refine g_bipush X (v := -2) dX10_trade_28 (by decide) ?_
      obtain ⟨rfl, rfl⟩ := lf2 hf
      exact hret 30 _ dX10_trade_30 rfl
    · have hf := ie c13 hf
      refine g_iload_n X 1 dX10_trade_16 rfl rfl ?_
      refine g_iload_n X 2 dX10_trade_17 rfl rfl ?_
      refine g_icmp_eq X (tgt := 28) dX10_trade_18 (by decide) (fun c18 => ?_) (fun c18 => ?_)
      · have hf := it c18 hf
        refine g_bipush X (v := -2) dX10_trade_28 (by decide) ?_
        obtain ⟨rfl, rfl⟩ := lf2 hf
        exact hret 30 _ dX10_trade_30 rfl
      · have hf := ie c18 hf
        refine g_iload_n X 3 dX10_trade_21 rfl rfl ?_
        obtain ⟨r22, m22, h22, hf⟩ := bi_i hf
        refine g_eSI X [.int p2] kS_X10_106 (c_X10_isPlace h22) dX10_trade_22 rfl rfl ⟨(Nat.le_of_ble_eq_true rfl), (Nat.le_of_ble_eq_true rfl)⟩ ⟨rfl, rfl⟩ ⟨(Nat.zero_le _), (Nat.zero_le _)⟩ (Nat.le_of_ble_eq_true rfl) ?_
        refine g_if_ne X (tgt := 31) dX10_trade_25 (by decide) (fun c25 => ?_) (fun c25 => ?_)
        · have hf := ie c25 hf
          refine g_aload_n X 0 dX10_trade_31 rfl rfl ?_
          refine g_iload_n X 1 dX10_trade_32 rfl rfl ?_
          refine g_iload_n X 2 dX10_trade_33 rfl rfl ?_
          refine g_iload_n X 3 dX10_trade_34 rfl rfl ?_
          obtain ⟨r35, m35, h35, hf⟩ := bi_i hf
          refine g_eVI X 63 9 [.int p0, .int p1, .int p2] kV_X10_372 (c_X10_payOf h35) dX10_trade_35 rfl rfl (sgN (by decide)) rfl (by decide) rfl rfl ⟨(Nat.le_of_ble_eq_true rfl), (Nat.le_of_ble_eq_true rfl)⟩ ⟨rfl, rfl⟩ ⟨(Nat.zero_le _), (Nat.zero_le _)⟩ (Nat.le_of_ble_eq_true rfl) ?_
          refine g_istore X (lv' := [(4, .int r35), (0, .ref (ad 63)), (1, .int p0), (2, .int p1), (3, .int p2)]) dX10_trade_38 (by decide) rfl ?_
          refine g_iload X 0 dX10_trade_40 rfl ?_
          refine g_iconst X (v := -1) dX10_trade_42 (by decide) ?_
          refine g_icmp_ne X (tgt := 49) dX10_trade_43 (by decide) (fun c43 => ?_) (fun c43 => ?_)
          · have hf := ie c43 hf
            refine g_aload_n X 1 dX10_trade_49 rfl rfl ?_
            refine g_iload_n X 2 dX10_trade_50 rfl rfl ?_
            refine g_iload_n X 3 dX10_trade_51 rfl rfl ?_
            refine g_iload_n X 4 dX10_trade_52 rfl rfl ?_
            refine g_iload X 0 dX10_trade_53 rfl ?_
            obtain ⟨m55, h55, hf⟩ := bv_i hf
            refine g_eVV X 63 9 [.int p0, .int p1, .int p2, .int r35] kV_X10_375 (c_X10_trades h55) dX10_trade_55 rfl rfl (sgN (by decide)) rfl (by decide) rfl rfl ⟨(Nat.le_of_ble_eq_true rfl), (Nat.le_of_ble_eq_true rfl)⟩ ⟨rfl, rfl⟩ ⟨(Nat.zero_le _), (Nat.zero_le _)⟩ (Nat.le_of_ble_eq_true rfl) ?_
            refine g_iload X 0 dX10_trade_58 rfl ?_
            obtain ⟨rfl, rfl⟩ := lf2 hf
            exact hret 60 _ dX10_trade_60 rfl
          · have hf := it c43 hf
            refine g_bipush X (v := -3) dX10_trade_46 (by decide) ?_
            obtain ⟨rfl, rfl⟩ := lf2 hf
            exact hret 48 _ dX10_trade_48 rfl
        · have hf := it c25 hf
          refine g_bipush X (v := -2) dX10_trade_28 (by decide) ?_
          obtain ⟨rfl, rfl⟩ := lf2 hf
          exact hret 30 _ dX10_trade_30 rfl

def X10_meets1_52 (k2 : Int32 → Int32 → Int32 → Mem → Option (Int32 × Mem)) (v1 : Int32) (v2 : Int32) (v3 : Int32) (m0 : Mem) : Option (Int32 × Mem) :=
  k2 v1 v2 (v3 + (1 : Int32)) m0
def X10_meets1_2 : Nat → Int32 → Int32 → Int32 → Mem → Option (Int32 × Mem)
  | 0, _, _, _, _ => none
  | n + 1, v1, v2, v3, m0 =>
    if (8 : Int32) ≤ v3 then
      some ((0 : Int32), m0)
    else
      if inn (((5 : Int32) * v1) + (3 : Int32)) 30 then
      if (((m0.1 69 (((5 : Int32) * v1) + (3 : Int32)).toNatClampNeg) >>> (v3 &&& 31)) &&& (1 : Int32)) = (1 : Int32) then
        bi (X10_payOf v1 v2 v3 m0) fun r30 m30 =>
        if r30 = (-1 : Int32) then
          X10_meets1_52 (X10_meets1_2 n) v1 v2 v3 m30
        else
          bv (X10_trades v1 v2 v3 r30 m30) fun m47 =>
          some ((1 : Int32), m47)
      else
        X10_meets1_52 (X10_meets1_2 n) v1 v2 v3 m0
      else none
def X10_meets1 (p0 : Int32) (p1 : Int32) (m0 : Mem) : Option (Int32 × Mem) :=
  X10_meets1_2 10000 p0 p1 (0 : Int32) m0
abbrev rmX10_meets1 : Room := { frames := 45, cells := 0, slots := 0, locals := 1006 }
set_option maxRecDepth 100000 in
set_option maxHeartbeats 4000000 in
theorem w_X10_meets1_52 {Γ : Ga} {b : Nat} {ad : Nat → Nat} {nt : Nat} {z : Nat → Nat} {k2 : Int32 → Int32 → Int32 → Mem → Option (Int32 × Mem)} {r9 : Int32} {m9 : Mem} (X : Cx Γ b cX10_meets1 5 RX10 (some .int) rmX10_meets1) (hret : ∀ (pc : Nat) (lv : List (Nat × Value)), decode cX10_meets1 pc = .ok (.ireturn, 1) → narrow .int (.int r9) = .int r9 → Go Γ b (sg ad nt z) 0 0 pc lv [.int r9] m9) (hk2 : ∀ (v1 : Int32) (v2 : Int32) (v3 : Int32) (m0 : Mem), k2 v1 v2 v3 m0 = some (r9, m9) → Go Γ b (sg ad nt z) 0 0 2 [(0, .ref (ad 63)), (1, .int v1), (2, .int v2), (3, .int v3)] [] m0) (v1 : Int32) (v2 : Int32) (v3 : Int32) (m0 : Mem) (hf : X10_meets1_52 k2 v1 v2 v3 m0 = some (r9, m9)) : Go Γ b (sg ad nt z) 0 0 52 [(0, .ref (ad 63)), (1, .int v1), (2, .int v2), (3, .int v3)] [] m0 := by
  refine g_iinc X 3 (v := v3 + (1 : Int32)) (lv' := [(3, .int (v3 + (1 : Int32))), (0, .ref (ad 63)), (1, .int v1), (2, .int v2)]) dX10_meets1_52 rfl rfl (by decide) rfl ?_
  refine g_goto X (tgt := 2) dX10_meets1_55 (by decide) ?_
  refine g_pick [1, 2, 3, 0] (lv' := [(0, .ref (ad 63)), (1, .int v1), (2, .int v2), (3, .int (v3 + (1 : Int32)))]) rfl ?_
  exact hk2 v1 v2 (v3 + (1 : Int32)) m0 hf
set_option maxRecDepth 100000 in
set_option maxHeartbeats 4000000 in
theorem w_X10_meets1_2 {Γ : Ga} {b : Nat} {ad : Nat → Nat} {nt : Nat} {z : Nat → Nat} {r9 : Int32} {m9 : Mem} (X : Cx Γ b cX10_meets1 5 RX10 (some .int) rmX10_meets1) (hret : ∀ (pc : Nat) (lv : List (Nat × Value)), decode cX10_meets1 pc = .ok (.ireturn, 1) → narrow .int (.int r9) = .int r9 → Go Γ b (sg ad nt z) 0 0 pc lv [.int r9] m9) : ∀ (n : Nat) (v1 : Int32) (v2 : Int32) (v3 : Int32) (m0 : Mem), X10_meets1_2 n v1 v2 v3 m0 = some (r9, m9) → Go Γ b (sg ad nt z) 0 0 2 [(0, .ref (ad 63)), (1, .int v1), (2, .int v2), (3, .int v3)] [] m0 := by
  intro n
  induction n with
  | zero =>
    intro v1 v2 v3 m0 hf
    cases hf
  | succ n ih =>
    intro v1 v2 v3 m0 hf
    refine g_iload_n X 3 dX10_meets1_2 rfl rfl ?_
    refine g_bipush X (v := 8) dX10_meets1_3 (by decide) ?_
    refine g_icmp_ge X (tgt := 58) dX10_meets1_5 (by decide) (fun c5 => ?_) (fun c5 => ?_)
    · have hf := it c5 hf
      refine g_iconst X (v := 0) dX10_meets1_58 (by decide) ?_
      obtain ⟨rfl, rfl⟩ := lf2 hf
      exact hret 59 _ dX10_meets1_59 rfl
    · have hf := ie c5 hf
      refine g_aload_n X 0 dX10_meets1_8 rfl rfl ?_
      refine g_getr X (x := ad 69) 63 9 10 dX10_meets1_9 (sgN (by decide)) rfl (by decide) rfl iw_X10 (by decide) rfl q_fl_X10_29 rfl ?_
      refine g_iconst X (v := 5) dX10_meets1_12 (by decide) ?_
      refine g_iload_n X 1 dX10_meets1_13 rfl rfl ?_
      refine g_imul X dX10_meets1_14 ?_
      refine g_iconst X (v := 3) dX10_meets1_15 (by decide) ?_
      refine g_iadd X dX10_meets1_16 ?_
      obtain ⟨h17, hf⟩ := grd hf
      refine g_iald X 69 (n := 30) dX10_meets1_17 (sgN (by decide)) rfl rfl h17 ?_
      refine g_iload_n X 3 dX10_meets1_18 rfl rfl ?_
      refine g_ishr X dX10_meets1_19 ?_
      refine g_iconst X (v := 1) dX10_meets1_20 (by decide) ?_
      refine g_iand X dX10_meets1_21 ?_
      refine g_iconst X (v := 1) dX10_meets1_22 (by decide) ?_
      refine g_icmp_ne X (tgt := 52) dX10_meets1_23 (by decide) (fun c23 => ?_) (fun c23 => ?_)
      · have hf := ie c23 hf
        exact w_X10_meets1_52 X hret ih v1 v2 v3 m0 hf
      · have hf := it c23 hf
        refine g_aload_n X 0 dX10_meets1_26 rfl rfl ?_
        refine g_iload_n X 1 dX10_meets1_27 rfl rfl ?_
        refine g_iload_n X 2 dX10_meets1_28 rfl rfl ?_
        refine g_iload_n X 3 dX10_meets1_29 rfl rfl ?_
        obtain ⟨r30, m30, h30, hf⟩ := bi_i hf
        refine g_eVI X 63 9 [.int v1, .int v2, .int v3] kV_X10_372 (c_X10_payOf h30) dX10_meets1_30 rfl rfl (sgN (by decide)) rfl (by decide) rfl rfl ⟨(Nat.le_of_ble_eq_true rfl), (Nat.le_of_ble_eq_true rfl)⟩ ⟨rfl, rfl⟩ ⟨(Nat.zero_le _), (Nat.zero_le _)⟩ (Nat.le_of_ble_eq_true rfl) ?_
        refine g_istore X (lv' := [(4, .int r30), (0, .ref (ad 63)), (1, .int v1), (2, .int v2), (3, .int v3)]) dX10_meets1_33 (by decide) rfl ?_
        refine g_iload X 0 dX10_meets1_35 rfl ?_
        refine g_iconst X (v := -1) dX10_meets1_37 (by decide) ?_
        refine g_icmp_eq X (tgt := 52) dX10_meets1_38 (by decide) (fun c38 => ?_) (fun c38 => ?_)
        · have hf := it c38 hf
          refine g_pick [1, 2, 3, 4] (lv' := [(0, .ref (ad 63)), (1, .int v1), (2, .int v2), (3, .int v3)]) rfl ?_
          exact w_X10_meets1_52 X hret ih v1 v2 v3 m30 hf
        · have hf := ie c38 hf
          refine g_aload_n X 1 dX10_meets1_41 rfl rfl ?_
          refine g_iload_n X 2 dX10_meets1_42 rfl rfl ?_
          refine g_iload_n X 3 dX10_meets1_43 rfl rfl ?_
          refine g_iload_n X 4 dX10_meets1_44 rfl rfl ?_
          refine g_iload X 0 dX10_meets1_45 rfl ?_
          obtain ⟨m47, h47, hf⟩ := bv_i hf
          refine g_eVV X 63 9 [.int v1, .int v2, .int v3, .int r30] kV_X10_375 (c_X10_trades h47) dX10_meets1_47 rfl rfl (sgN (by decide)) rfl (by decide) rfl rfl ⟨(Nat.le_of_ble_eq_true rfl), (Nat.le_of_ble_eq_true rfl)⟩ ⟨rfl, rfl⟩ ⟨(Nat.zero_le _), (Nat.zero_le _)⟩ (Nat.le_of_ble_eq_true rfl) ?_
          refine g_iconst X (v := 1) dX10_meets1_50 (by decide) ?_
          obtain ⟨rfl, rfl⟩ := lf2 hf
          exact hret 51 _ dX10_meets1_51 rfl
set_option maxRecDepth 100000 in
set_option maxHeartbeats 4000000 in
theorem c_X10_meets1 {l : Launch} {G : GG} {b : Nat} {ad : Nat → Nat} {nt : Nat} {z : Nat → Nat} {p0 : Int32} {p1 : Int32} {m0 : Mem} {r9 : Int32} {m9 : Mem} (hf : X10_meets1 p0 p1 m0 = some (r9, m9)) : MtI l yX10_meets1 cX10_meets1 5 (some .int) rmX10_meets1 G b (sg ad nt z) m0 [.ref (ad 63), .int p0, .int p1] (pEI r9 (sg ad nt z) m9) := by
  refine mtI_of (by decide) (Nat.le_of_ble_eq_true rfl) .int rfl (fun Γ hG X hnm hr => ?_)
  have hret : ∀ (pc : Nat) (lv : List (Nat × Value)), decode cX10_meets1 pc = .ok (.ireturn, 1) → narrow .int (.int r9) = .int r9 → Go Γ b (sg ad nt z) 0 0 pc lv [.int r9] m9 := fun pc lv d hn => hr pc lv _ _ _ d ⟨rfl, rfl, rfl⟩ hn
  show Go Γ b (sg ad nt z) 0 0 0 [(0, .ref (ad 63)), (1, .int p0), (2, .int p1)] [] m0
  refine g_iconst X (v := 0) dX10_meets1_0 (by decide) ?_
  refine g_istore_n X (lv' := [(3, .int (0 : Int32)), (0, .ref (ad 63)), (1, .int p0), (2, .int p1)]) dX10_meets1_1 rfl (by decide) rfl ?_
  refine g_pick [1, 2, 3, 0] (lv' := [(0, .ref (ad 63)), (1, .int p0), (2, .int p1), (3, .int (0 : Int32))]) rfl ?_
  exact w_X10_meets1_2 X hret 10000 p0 p1 (0 : Int32) m0 hf

theorem kV_X10_379 : wcV RX10 379 RX10 yX10_meets1 cX10_meets1 5 (some .int) 2 := ⟨q_ml_X10_379, q_im_yX10_meets1, q_se_yX10_meets1, q_in_X10, q_co_yX10_meets1, by decide +kernel⟩

def X10_passes_53 (k4 : Int32 → Int32 → Int32 → Mem → Option (Int32 × Mem)) (k15 : Int32 → Int32 → Int32 → Int32 → Mem → Option (Int32 × Mem)) (v1 : Int32) (v3 : Int32) (v4 : Int32) (s0 : Int32) (s1 : Int32) (m0 : Mem) : Option (Int32 × Mem) :=
  k15 v1 (s1 + s0) v3 (v4 + (1 : Int32)) m0
def X10_passes_52 (k4 : Int32 → Int32 → Int32 → Mem → Option (Int32 × Mem)) (k15 : Int32 → Int32 → Int32 → Int32 → Mem → Option (Int32 × Mem)) (v1 : Int32) (v3 : Int32) (v4 : Int32) (s0 : Int32) (m0 : Mem) : Option (Int32 × Mem) :=
  X10_passes_53 k4 k15 v1 v3 v4 (0 : Int32) s0 m0
def X10_passes_15 (k4 : Int32 → Int32 → Int32 → Mem → Option (Int32 × Mem)) : Nat → Int32 → Int32 → Int32 → Int32 → Mem → Option (Int32 × Mem)
  | 0, _, _, _, _, _ => none
  | n + 1, v1, v2, v3, v4, m0 =>
    if (m0.1 63 11) ≤ v4 then
      k4 v1 v2 (v3 + (1 : Int32)) m0
    else
      if v3 = v4 then
        X10_passes_52 k4 (X10_passes_15 k4 n) v1 v3 v4 v2 m0
      else
        if v3 = v1 then
          X10_passes_52 k4 (X10_passes_15 k4 n) v1 v3 v4 v2 m0
        else
          if v4 = v1 then
            X10_passes_52 k4 (X10_passes_15 k4 n) v1 v3 v4 v2 m0
          else
            bi (X10_meets1 v3 v4 m0) fun r46 m46 =>
            X10_passes_53 k4 (X10_passes_15 k4 n) v1 v3 v4 r46 v2 m46
def X10_passes_4 : Nat → Int32 → Int32 → Int32 → Mem → Option (Int32 × Mem)
  | 0, _, _, _, _ => none
  | n + 1, v1, v2, v3, m0 =>
    if (m0.1 63 11) ≤ v3 then
      some (v2, pI m0 63 7 ((m0.1 63 7) + (1 : Int32)))
    else
      X10_passes_15 (X10_passes_4 n) 10000 v1 v2 v3 (0 : Int32) m0
def X10_passes (p0 : Int32) (m0 : Mem) : Option (Int32 × Mem) :=
  X10_passes_4 10000 p0 (0 : Int32) (0 : Int32) m0
abbrev rmX10_passes : Room := { frames := 46, cells := 0, slots := 0, locals := 1030 }
set_option maxRecDepth 100000 in
set_option maxHeartbeats 4000000 in
theorem w_X10_passes_53 {Γ : Ga} {b : Nat} {ad : Nat → Nat} {nt : Nat} {z : Nat → Nat} {k4 : Int32 → Int32 → Int32 → Mem → Option (Int32 × Mem)} {k15 : Int32 → Int32 → Int32 → Int32 → Mem → Option (Int32 × Mem)} {r9 : Int32} {m9 : Mem} (X : Cx Γ b cX10_passes 5 RX10 (some .int) rmX10_passes) (hret : ∀ (pc : Nat) (lv : List (Nat × Value)), decode cX10_passes pc = .ok (.ireturn, 1) → narrow .int (.int r9) = .int r9 → Go Γ b (sg ad nt z) 0 0 pc lv [.int r9] m9) (hk4 : ∀ (v1 : Int32) (v2 : Int32) (v3 : Int32) (m0 : Mem), k4 v1 v2 v3 m0 = some (r9, m9) → Go Γ b (sg ad nt z) 0 0 4 [(0, .ref (ad 63)), (1, .int v1), (2, .int v2), (3, .int v3)] [] m0) (hk15 : ∀ (v1 : Int32) (v2 : Int32) (v3 : Int32) (v4 : Int32) (m0 : Mem), k15 v1 v2 v3 v4 m0 = some (r9, m9) → Go Γ b (sg ad nt z) 0 0 15 [(0, .ref (ad 63)), (1, .int v1), (2, .int v2), (3, .int v3), (4, .int v4)] [] m0) (v1 : Int32) (v3 : Int32) (v4 : Int32) (s0 : Int32) (s1 : Int32) (m0 : Mem) (hf : X10_passes_53 k4 k15 v1 v3 v4 s0 s1 m0 = some (r9, m9)) : Go Γ b (sg ad nt z) 0 0 53 [(0, .ref (ad 63)), (1, .int v1), (3, .int v3), (4, .int v4)] [.int s0, .int s1] m0 := by
  refine g_iadd X dX10_passes_53 ?_
  refine g_istore_n X (lv' := [(2, .int (s1 + s0)), (0, .ref (ad 63)), (1, .int v1), (3, .int v3), (4, .int v4)]) dX10_passes_54 rfl (by decide) rfl ?_
  refine g_iinc X 4 (v := v4 + (1 : Int32)) (lv' := [(4, .int (v4 + (1 : Int32))), (2, .int (s1 + s0)), (0, .ref (ad 63)), (1, .int v1), (3, .int v3)]) dX10_passes_55 rfl rfl (by decide) rfl ?_
  refine g_goto X (tgt := 15) dX10_passes_58 (by decide) ?_
  refine g_pick [2, 3, 1, 4, 0] (lv' := [(0, .ref (ad 63)), (1, .int v1), (2, .int (s1 + s0)), (3, .int v3), (4, .int (v4 + (1 : Int32)))]) rfl ?_
  exact hk15 v1 (s1 + s0) v3 (v4 + (1 : Int32)) m0 hf
set_option maxRecDepth 100000 in
set_option maxHeartbeats 4000000 in
theorem w_X10_passes_52 {Γ : Ga} {b : Nat} {ad : Nat → Nat} {nt : Nat} {z : Nat → Nat} {k4 : Int32 → Int32 → Int32 → Mem → Option (Int32 × Mem)} {k15 : Int32 → Int32 → Int32 → Int32 → Mem → Option (Int32 × Mem)} {r9 : Int32} {m9 : Mem} (X : Cx Γ b cX10_passes 5 RX10 (some .int) rmX10_passes) (hret : ∀ (pc : Nat) (lv : List (Nat × Value)), decode cX10_passes pc = .ok (.ireturn, 1) → narrow .int (.int r9) = .int r9 → Go Γ b (sg ad nt z) 0 0 pc lv [.int r9] m9) (hk4 : ∀ (v1 : Int32) (v2 : Int32) (v3 : Int32) (m0 : Mem), k4 v1 v2 v3 m0 = some (r9, m9) → Go Γ b (sg ad nt z) 0 0 4 [(0, .ref (ad 63)), (1, .int v1), (2, .int v2), (3, .int v3)] [] m0) (hk15 : ∀ (v1 : Int32) (v2 : Int32) (v3 : Int32) (v4 : Int32) (m0 : Mem), k15 v1 v2 v3 v4 m0 = some (r9, m9) → Go Γ b (sg ad nt z) 0 0 15 [(0, .ref (ad 63)), (1, .int v1), (2, .int v2), (3, .int v3), (4, .int v4)] [] m0) (v1 : Int32) (v3 : Int32) (v4 : Int32) (s0 : Int32) (m0 : Mem) (hf : X10_passes_52 k4 k15 v1 v3 v4 s0 m0 = some (r9, m9)) : Go Γ b (sg ad nt z) 0 0 52 [(0, .ref (ad 63)), (1, .int v1), (3, .int v3), (4, .int v4)] [.int s0] m0 := by
  refine g_iconst X (v := 0) dX10_passes_52 (by decide) ?_
  exact w_X10_passes_53 X hret hk4 hk15 v1 v3 v4 (0 : Int32) s0 m0 hf
set_option maxRecDepth 100000 in
set_option maxHeartbeats 4000000 in
theorem w_X10_passes_15 {Γ : Ga} {b : Nat} {ad : Nat → Nat} {nt : Nat} {z : Nat → Nat} {k4 : Int32 → Int32 → Int32 → Mem → Option (Int32 × Mem)} {r9 : Int32} {m9 : Mem} (X : Cx Γ b cX10_passes 5 RX10 (some .int) rmX10_passes) (hret : ∀ (pc : Nat) (lv : List (Nat × Value)), decode cX10_passes pc = .ok (.ireturn, 1) → narrow .int (.int r9) = .int r9 → Go Γ b (sg ad nt z) 0 0 pc lv [.int r9] m9) (hk4 : ∀ (v1 : Int32) (v2 : Int32) (v3 : Int32) (m0 : Mem), k4 v1 v2 v3 m0 = some (r9, m9) → Go Γ b (sg ad nt z) 0 0 4 [(0, .ref (ad 63)), (1, .int v1), (2, .int v2), (3, .int v3)] [] m0) : ∀ (n : Nat) (v1 : Int32) (v2 : Int32) (v3 : Int32) (v4 : Int32) (m0 : Mem), X10_passes_15 k4 n v1 v2 v3 v4 m0 = some (r9, m9) → Go Γ b (sg ad nt z) 0 0 15 [(0, .ref (ad 63)), (1, .int v1), (2, .int v2), (3, .int v3), (4, .int v4)] [] m0 := by
  intro n
  induction n with
  | zero =>
    intro v1 v2 v3 v4 m0 hf
    cases hf
  | succ n ih =>
    intro v1 v2 v3 v4 m0 hf
    refine g_iload X 4 dX10_passes_15 rfl ?_
    refine g_aload_n X 0 dX10_passes_17 rfl rfl ?_
    refine g_getI X 63 9 11 dX10_passes_18 (sgN (by decide)) rfl (by decide) rfl iw_X10 (by decide) rfl q_fl_X10_73 ?_
    refine g_icmp_ge X (tgt := 61) dX10_passes_21 (by decide) (fun c21 => ?_) (fun c21 => ?_)
    · have hf := it c21 hf
      refine g_iinc X 3 (v := v3 + (1 : Int32)) (lv' := [(3, .int (v3 + (1 : Int32))), (0, .ref (ad 63)), (1, .int v1), (2, .int v2), (4, .int v4)]) dX10_passes_61 rfl rfl (by decide) rfl ?_
      refine g_goto X (tgt := 4) dX10_passes_64 (by decide) ?_
      refine g_pick [1, 2, 3, 0] (lv' := [(0, .ref (ad 63)), (1, .int v1), (2, .int v2), (3, .int (v3 + (1 : Int32)))]) rfl ?_
      exact hk4 v1 v2 (v3 + (1 : Int32)) m0 hf
    · have hf := ie c21 hf
      refine g_iload_n X 2 dX10_passes_24 rfl rfl ?_
      refine g_iload_n X 3 dX10_passes_25 rfl rfl ?_
      refine g_iload X 4 dX10_passes_26 rfl ?_
      refine g_icmp_eq X (tgt := 52) dX10_passes_28 (by decide) (fun c28 => ?_) (fun c28 => ?_)
      · have hf := it c28 hf
        refine g_pick [0, 1, 3, 4] (lv' := [(0, .ref (ad 63)), (1, .int v1), (3, .int v3), (4, .int v4)]) rfl ?_
        exact w_X10_passes_52 X hret hk4 ih v1 v3 v4 v2 m0 hf
      · have hf := ie c28 hf
        refine g_iload_n X 3 dX10_passes_31 rfl rfl ?_
        refine g_iload_n X 1 dX10_passes_32 rfl rfl ?_
        refine g_icmp_eq X (tgt := 52) dX10_passes_33 (by decide) (fun c33 => ?_) (fun c33 => ?_)
        · have hf := it c33 hf
          refine g_pick [0, 1, 3, 4] (lv' := [(0, .ref (ad 63)), (1, .int v1), (3, .int v3), (4, .int v4)]) rfl ?_
          exact w_X10_passes_52 X hret hk4 ih v1 v3 v4 v2 m0 hf
        · have hf := ie c33 hf
          refine g_iload X 4 dX10_passes_36 rfl ?_
          refine g_iload_n X 1 dX10_passes_38 rfl rfl ?_
          refine g_icmp_eq X (tgt := 52) dX10_passes_39 (by decide) (fun c39 => ?_) (fun c39 => ?_)
          · have hf := it c39 hf
            refine g_pick [0, 1, 3, 4] (lv' := [(0, .ref (ad 63)), (1, .int v1), (3, .int v3), (4, .int v4)]) rfl ?_
            exact w_X10_passes_52 X hret hk4 ih v1 v3 v4 v2 m0 hf
          · have hf := ie c39 hf
            refine g_aload_n X 0 dX10_passes_42 rfl rfl ?_
            refine g_iload_n X 3 dX10_passes_43 rfl rfl ?_
            refine g_iload X 4 dX10_passes_44 rfl ?_
            obtain ⟨r46, m46, h46, hf⟩ := bi_i hf
            refine g_eVI X 63 9 [.int v3, .int v4] kV_X10_379 (c_X10_meets1 h46) dX10_passes_46 rfl rfl (sgN (by decide)) rfl (by decide) rfl rfl ⟨(Nat.le_of_ble_eq_true rfl), (Nat.le_of_ble_eq_true rfl)⟩ ⟨rfl, rfl⟩ ⟨(Nat.zero_le _), (Nat.zero_le _)⟩ (Nat.le_of_ble_eq_true rfl) ?_
            refine g_goto X (tgt := 53) dX10_passes_49 (by decide) ?_
            refine g_pick [0, 1, 3, 4] (lv' := [(0, .ref (ad 63)), (1, .int v1), (3, .int v3), (4, .int v4)]) rfl ?_
            exact w_X10_passes_53 X hret hk4 ih v1 v3 v4 r46 v2 m46 hf
set_option maxRecDepth 100000 in
set_option maxHeartbeats 4000000 in
theorem w_X10_passes_4 {Γ : Ga} {b : Nat} {ad : Nat → Nat} {nt : Nat} {z : Nat → Nat} {r9 : Int32} {m9 : Mem} (X : Cx Γ b cX10_passes 5 RX10 (some .int) rmX10_passes) (hret : ∀ (pc : Nat) (lv : List (Nat × Value)), decode cX10_passes pc = .ok (.ireturn, 1) → narrow .int (.int r9) = .int r9 → Go Γ b (sg ad nt z) 0 0 pc lv [.int r9] m9) : ∀ (n : Nat) (v1 : Int32) (v2 : Int32) (v3 : Int32) (m0 : Mem), X10_passes_4 n v1 v2 v3 m0 = some (r9, m9) → Go Γ b (sg ad nt z) 0 0 4 [(0, .ref (ad 63)), (1, .int v1), (2, .int v2), (3, .int v3)] [] m0 := by
  intro n
  induction n with
  | zero =>
    intro v1 v2 v3 m0 hf
    cases hf
  | succ n ih =>
    intro v1 v2 v3 m0 hf
    refine g_iload_n X 3 dX10_passes_4 rfl rfl ?_
    refine g_aload_n X 0 dX10_passes_5 rfl rfl ?_
    refine g_getI X 63 9 11 dX10_passes_6 (sgN (by decide)) rfl (by decide) rfl iw_X10 (by decide) rfl q_fl_X10_73 ?_
    refine g_icmp_ge X (tgt := 67) dX10_passes_9 (by decide) (fun c9 => ?_) (fun c9 => ?_)
    · have hf := it c9 hf
      refine g_aload_n X 0 dX10_passes_67 rfl rfl ?_
      refine g_dup X dX10_passes_68 rfl ?_
      refine g_getI X 63 9 7 dX10_passes_69 (sgN (by decide)) rfl (by decide) rfl iw_X10 (by decide) rfl q_fl_X10_100 ?_
      refine g_iconst X (v := 1) dX10_passes_72 (by decide) ?_
      refine g_iadd X dX10_passes_73 ?_
      refine g_putI X (tyf := tyX10) 63 9 7 dX10_passes_74 (sgN (by decide)) rfl (by decide) rfl iw_X10 (by decide) rfl q_fl_X10_100 tyX10_ok nmX10 rfl rfl rfl ?_
      refine g_iload_n X 2 dX10_passes_77 rfl rfl ?_
      obtain ⟨rfl, rfl⟩ := lf2 hf
      exact hret 78 _ dX10_passes_78 rfl
    · have hf := ie c9 hf
      refine g_iconst X (v := 0) dX10_passes_12 (by decide) ?_
      refine g_istore X (lv' := [(4, .int (0 : Int32)), (0, .ref (ad 63)), (1, .int v1), (2, .int v2), (3, .int v3)]) dX10_passes_13 (by decide) rfl ?_
      refine g_pick [1, 2, 3, 4, 0] (lv' := [(0, .ref (ad 63)), (1, .int v1), (2, .int v2), (3, .int v3), (4, .int (0 : Int32))]) rfl ?_
      exact w_X10_passes_15 X hret ih 10000 v1 v2 v3 (0 : Int32) m0 hf
set_option maxRecDepth 100000 in
set_option maxHeartbeats 4000000 in
theorem c_X10_passes {l : Launch} {G : GG} {b : Nat} {ad : Nat → Nat} {nt : Nat} {z : Nat → Nat} {p0 : Int32} {m0 : Mem} {r9 : Int32} {m9 : Mem} (hf : X10_passes p0 m0 = some (r9, m9)) : MtI l yX10_passes cX10_passes 5 (some .int) rmX10_passes G b (sg ad nt z) m0 [.ref (ad 63), .int p0] (pEI r9 (sg ad nt z) m9) := by
  refine mtI_of (by decide) (Nat.le_of_ble_eq_true rfl) .int rfl (fun Γ hG X hnm hr => ?_)
  have hret : ∀ (pc : Nat) (lv : List (Nat × Value)), decode cX10_passes pc = .ok (.ireturn, 1) → narrow .int (.int r9) = .int r9 → Go Γ b (sg ad nt z) 0 0 pc lv [.int r9] m9 := fun pc lv d hn => hr pc lv _ _ _ d ⟨rfl, rfl, rfl⟩ hn
  show Go Γ b (sg ad nt z) 0 0 0 [(0, .ref (ad 63)), (1, .int p0)] [] m0
  refine g_iconst X (v := 0) dX10_passes_0 (by decide) ?_
  refine g_istore_n X (lv' := [(2, .int (0 : Int32)), (0, .ref (ad 63)), (1, .int p0)]) dX10_passes_1 rfl (by decide) rfl ?_
  refine g_iconst X (v := 0) dX10_passes_2 (by decide) ?_
  refine g_istore_n X (lv' := [(3, .int (0 : Int32)), (2, .int (0 : Int32)), (0, .ref (ad 63)), (1, .int p0)]) dX10_passes_3 rfl (by decide) rfl ?_
  refine g_pick [2, 3, 1, 0] (lv' := [(0, .ref (ad 63)), (1, .int p0), (2, .int (0 : Int32)), (3, .int (0 : Int32))]) rfl ?_
  exact w_X10_passes_4 X hret 10000 p0 (0 : Int32) (0 : Int32) m0 hf

theorem kV_X10_382 : wcV RX10 382 RX10 yX10_passes cX10_passes 5 (some .int) 1 := ⟨q_ml_X10_382, q_im_yX10_passes, q_se_yX10_passes, q_in_X10, q_co_yX10_passes, by decide +kernel⟩

def X10_round (m0 : Mem) : Option (Int32 × Mem) :=
  if (m0.1 63 7) = (999 : Int32) then
    some ((-3 : Int32), m0)
  else
    bi (X10_passes (-1 : Int32) m0) fun r17 m17 =>
    some (r17, m17)
abbrev rmX10_round : Room := { frames := 47, cells := 0, slots := 0, locals := 1054 }

set_option maxRecDepth 100000 in
set_option maxHeartbeats 4000000 in
theorem c_X10_round {l : Launch} {G : GG} {b : Nat} {ad : Nat → Nat} {nt : Nat} {z : Nat → Nat} {m0 : Mem} {r9 : Int32} {m9 : Mem} (hf : X10_round m0 = some (r9, m9)) : MtI l yX10_round cX10_round 1 (some .int) rmX10_round G b (sg ad nt z) m0 [.ref (ad 63)] (pEI r9 (sg ad nt z) m9) := by
  refine mtI_of (by decide) (Nat.le_of_ble_eq_true rfl) .int rfl (fun Γ hG X hnm hr => ?_)
  have hret : ∀ (pc : Nat) (lv : List (Nat × Value)), decode cX10_round pc = .ok (.ireturn, 1) → narrow .int (.int r9) = .int r9 → Go Γ b (sg ad nt z) 0 0 pc lv [.int r9] m9 := fun pc lv d hn => hr pc lv _ _ _ d ⟨rfl, rfl, rfl⟩ hn
  show Go Γ b (sg ad nt z) 0 0 0 [(0, .ref (ad 63))] [] m0
  refine g_aload_n X 0 dX10_round_0 rfl rfl ?_
  refine g_getI X 63 9 7 dX10_round_1 (sgN (by decide)) rfl (by decide) rfl iw_X10 (by decide) rfl q_fl_X10_100 ?_
  refine g_sipush X (v := 999) dX10_round_4 (by decide) ?_
  refine g_icmp_ne X (tgt := 15) dX10_round_7 (by decide) (fun c7 => ?_) (fun c7 => ?_)
  · have hf := ie c7 hf
    refine g_aload_n X 0 dX10_round_15 rfl rfl ?_
    refine g_iconst X (v := -1) dX10_round_16 (by decide) ?_
    obtain ⟨r17, m17, h17, hf⟩ := bi_i hf
    refine g_eVI X 63 9 [.int (-1 : Int32)] kV_X10_382 (c_X10_passes h17) dX10_round_17 rfl rfl (sgN (by decide)) rfl (by decide) rfl rfl ⟨(Nat.le_of_ble_eq_true rfl), (Nat.le_of_ble_eq_true rfl)⟩ ⟨rfl, rfl⟩ ⟨(Nat.zero_le _), (Nat.zero_le _)⟩ (Nat.le_of_ble_eq_true rfl) ?_
    obtain ⟨rfl, rfl⟩ := lf2 hf
    exact hret 20 _ dX10_round_20 rfl
  · have hf := it c7 hf
    refine g_bipush X (v := -3) dX10_round_10 (by decide) ?_
    refine g_goto X (tgt := 20) dX10_round_12 (by decide) ?_
    obtain ⟨rfl, rfl⟩ := lf2 hf
    exact hret 20 _ dX10_round_20 rfl

def X10_laysAside_2 : Nat → Int32 → Mem → Option (Mem)
  | 0, _, _ => none
  | n + 1, v1, m0 =>
    if (30 : Int32) ≤ v1 then
      some (pI m0 63 29 (m0.1 63 7))
    else
      if inn v1 30 then
      if inn v1 30 then
      X10_laysAside_2 n (v1 + (1 : Int32)) (pI m0 71 v1.toNatClampNeg (m0.1 69 v1.toNatClampNeg))
      else none
      else none
def X10_laysAside (m0 : Mem) : Option (Mem) :=
  X10_laysAside_2 10000 (0 : Int32) m0
abbrev rmX10_laysAside : Room := { frames := 0, cells := 0, slots := 0, locals := 0 }
set_option maxRecDepth 100000 in
set_option maxHeartbeats 4000000 in
theorem w_X10_laysAside_2 {Γ : Ga} {b : Nat} {ad : Nat → Nat} {nt : Nat} {z : Nat → Nat} {m9 : Mem} (X : Cx Γ b cX10_laysAside 2 RX10 (none) rmX10_laysAside) (hret : ∀ (pc : Nat) (lv : List (Nat × Value)), decode cX10_laysAside pc = .ok (.return_, 1) → Go Γ b (sg ad nt z) 0 0 pc lv [] m9) : ∀ (n : Nat) (v1 : Int32) (m0 : Mem), X10_laysAside_2 n v1 m0 = some m9 → Go Γ b (sg ad nt z) 0 0 2 [(0, .ref (ad 63)), (1, .int v1)] [] m0 := by
  intro n
  induction n with
  | zero =>
    intro v1 m0 hf
    cases hf
  | succ n ih =>
    intro v1 m0 hf
    refine g_iload_n X 1 dX10_laysAside_2 rfl rfl ?_
    refine g_bipush X (v := 30) dX10_laysAside_3 (by decide) ?_
    refine g_icmp_ge X (tgt := 26) dX10_laysAside_5 (by decide) (fun c5 => ?_) (fun c5 => ?_)
    · have hf := it c5 hf
      refine g_aload_n X 0 dX10_laysAside_26 rfl rfl ?_
      refine g_aload_n X 0 dX10_laysAside_27 rfl rfl ?_
      refine g_getI X 63 9 7 dX10_laysAside_28 (sgN (by decide)) rfl (by decide) rfl iw_X10 (by decide) rfl q_fl_X10_100 ?_
      refine g_putI X (tyf := tyX10) 63 9 29 dX10_laysAside_31 (sgN (by decide)) rfl (by decide) rfl iw_X10 (by decide) rfl q_fl_X10_385 tyX10_ok nmX10 rfl rfl rfl ?_
      obtain rfl := lf1 hf
      exact hret 34 _ dX10_laysAside_34
    · have hf := ie c5 hf
      refine g_aload_n X 0 dX10_laysAside_8 rfl rfl ?_
      refine g_getr X (x := ad 71) 63 9 28 dX10_laysAside_9 (sgN (by decide)) rfl (by decide) rfl iw_X10 (by decide) rfl q_fl_X10_35 rfl ?_
      refine g_iload_n X 1 dX10_laysAside_12 rfl rfl ?_
      refine g_aload_n X 0 dX10_laysAside_13 rfl rfl ?_
      refine g_getr X (x := ad 69) 63 9 10 dX10_laysAside_14 (sgN (by decide)) rfl (by decide) rfl iw_X10 (by decide) rfl q_fl_X10_29 rfl ?_
      refine g_iload_n X 1 dX10_laysAside_17 rfl rfl ?_
      obtain ⟨h18, hf⟩ := grd hf
      refine g_iald X 69 (n := 30) dX10_laysAside_18 (sgN (by decide)) rfl rfl h18 ?_
      obtain ⟨h19, hf⟩ := grd hf
      refine g_iast X 71 (n := 30) dX10_laysAside_19 (sgN (by decide)) rfl rfl h19 ?_
      refine g_iinc X 1 (v := v1 + (1 : Int32)) (lv' := [(1, .int (v1 + (1 : Int32))), (0, .ref (ad 63))]) dX10_laysAside_20 rfl rfl (by decide) rfl ?_
      refine g_goto X (tgt := 2) dX10_laysAside_23 (by decide) ?_
      refine g_pick [1, 0] (lv' := [(0, .ref (ad 63)), (1, .int (v1 + (1 : Int32)))]) rfl ?_
      exact ih (v1 + (1 : Int32)) (pI m0 71 v1.toNatClampNeg (m0.1 69 v1.toNatClampNeg)) hf
set_option maxRecDepth 100000 in
set_option maxHeartbeats 4000000 in
theorem c_X10_laysAside {l : Launch} {G : GG} {b : Nat} {ad : Nat → Nat} {nt : Nat} {z : Nat → Nat} {m0 : Mem} {m9 : Mem} (hf : X10_laysAside m0 = some m9) : MtV l yX10_laysAside cX10_laysAside 2 (none) rmX10_laysAside G b (sg ad nt z) m0 [.ref (ad 63)] (pEV (sg ad nt z) m9) := by
  refine mtV_of (by decide) (Nat.le_of_ble_eq_true rfl) rfl (fun Γ hG X hnm hr => ?_)
  have hret : ∀ (pc : Nat) (lv : List (Nat × Value)), decode cX10_laysAside pc = .ok (.return_, 1) → Go Γ b (sg ad nt z) 0 0 pc lv [] m9 := fun pc lv d => hr pc lv _ _ d ⟨rfl, rfl⟩
  show Go Γ b (sg ad nt z) 0 0 0 [(0, .ref (ad 63))] [] m0
  refine g_iconst X (v := 0) dX10_laysAside_0 (by decide) ?_
  refine g_istore_n X (lv' := [(1, .int (0 : Int32)), (0, .ref (ad 63))]) dX10_laysAside_1 rfl (by decide) rfl ?_
  refine g_pick [1, 0] (lv' := [(0, .ref (ad 63)), (1, .int (0 : Int32))]) rfl ?_
  exact w_X10_laysAside_2 X hret 10000 (0 : Int32) m0 hf

def X10_laysBack_2 : Nat → Int32 → Mem → Option (Mem)
  | 0, _, _ => none
  | n + 1, v1, m0 =>
    if (30 : Int32) ≤ v1 then
      some (pI m0 63 7 (m0.1 63 29))
    else
      if inn v1 30 then
      if inn v1 30 then
      X10_laysBack_2 n (v1 + (1 : Int32)) (pI m0 69 v1.toNatClampNeg (m0.1 71 v1.toNatClampNeg))
      else none
      else none
def X10_laysBack (m0 : Mem) : Option (Mem) :=
  X10_laysBack_2 10000 (0 : Int32) m0
abbrev rmX10_laysBack : Room := { frames := 0, cells := 0, slots := 0, locals := 0 }
set_option maxRecDepth 100000 in
set_option maxHeartbeats 4000000 in
theorem w_X10_laysBack_2 {Γ : Ga} {b : Nat} {ad : Nat → Nat} {nt : Nat} {z : Nat → Nat} {m9 : Mem} (X : Cx Γ b cX10_laysBack 2 RX10 (none) rmX10_laysBack) (hret : ∀ (pc : Nat) (lv : List (Nat × Value)), decode cX10_laysBack pc = .ok (.return_, 1) → Go Γ b (sg ad nt z) 0 0 pc lv [] m9) : ∀ (n : Nat) (v1 : Int32) (m0 : Mem), X10_laysBack_2 n v1 m0 = some m9 → Go Γ b (sg ad nt z) 0 0 2 [(0, .ref (ad 63)), (1, .int v1)] [] m0 := by
  intro n
  induction n with
  | zero =>
    intro v1 m0 hf
    cases hf
  | succ n ih =>
    intro v1 m0 hf
    refine g_iload_n X 1 dX10_laysBack_2 rfl rfl ?_
    refine g_bipush X (v := 30) dX10_laysBack_3 (by decide) ?_
    refine g_icmp_ge X (tgt := 26) dX10_laysBack_5 (by decide) (fun c5 => ?_) (fun c5 => ?_)
    · have hf := it c5 hf
      refine g_aload_n X 0 dX10_laysBack_26 rfl rfl ?_
      refine g_aload_n X 0 dX10_laysBack_27 rfl rfl ?_
      refine g_getI X 63 9 29 dX10_laysBack_28 (sgN (by decide)) rfl (by decide) rfl iw_X10 (by decide) rfl q_fl_X10_385 ?_
      refine g_putI X (tyf := tyX10) 63 9 7 dX10_laysBack_31 (sgN (by decide)) rfl (by decide) rfl iw_X10 (by decide) rfl q_fl_X10_100 tyX10_ok nmX10 rfl rfl rfl ?_
      obtain rfl := lf1 hf
      exact hret 34 _ dX10_laysBack_34
    · have hf := ie c5 hf
      refine g_aload_n X 0 dX10_laysBack_8 rfl rfl ?_
      refine g_getr X (x := ad 69) 63 9 10 dX10_laysBack_9 (sgN (by decide)) rfl (by decide) rfl iw_X10 (by decide) rfl q_fl_X10_29 rfl ?_
      refine g_iload_n X 1 dX10_laysBack_12 rfl rfl ?_
      refine g_aload_n X 0 dX10_laysBack_13 rfl rfl ?_
      refine g_getr X (x := ad 71) 63 9 28 dX10_laysBack_14 (sgN (by decide)) rfl (by decide) rfl iw_X10 (by decide) rfl q_fl_X10_35 rfl ?_
      refine g_iload_n X 1 dX10_laysBack_17 rfl rfl ?_
      obtain ⟨h18, hf⟩ := grd hf
      refine g_iald X 71 (n := 30) dX10_laysBack_18 (sgN (by decide)) rfl rfl h18 ?_
      obtain ⟨h19, hf⟩ := grd hf
      refine g_iast X 69 (n := 30) dX10_laysBack_19 (sgN (by decide)) rfl rfl h19 ?_
      refine g_iinc X 1 (v := v1 + (1 : Int32)) (lv' := [(1, .int (v1 + (1 : Int32))), (0, .ref (ad 63))]) dX10_laysBack_20 rfl rfl (by decide) rfl ?_
      refine g_goto X (tgt := 2) dX10_laysBack_23 (by decide) ?_
      refine g_pick [1, 0] (lv' := [(0, .ref (ad 63)), (1, .int (v1 + (1 : Int32)))]) rfl ?_
      exact ih (v1 + (1 : Int32)) (pI m0 69 v1.toNatClampNeg (m0.1 71 v1.toNatClampNeg)) hf
set_option maxRecDepth 100000 in
set_option maxHeartbeats 4000000 in
theorem c_X10_laysBack {l : Launch} {G : GG} {b : Nat} {ad : Nat → Nat} {nt : Nat} {z : Nat → Nat} {m0 : Mem} {m9 : Mem} (hf : X10_laysBack m0 = some m9) : MtV l yX10_laysBack cX10_laysBack 2 (none) rmX10_laysBack G b (sg ad nt z) m0 [.ref (ad 63)] (pEV (sg ad nt z) m9) := by
  refine mtV_of (by decide) (Nat.le_of_ble_eq_true rfl) rfl (fun Γ hG X hnm hr => ?_)
  have hret : ∀ (pc : Nat) (lv : List (Nat × Value)), decode cX10_laysBack pc = .ok (.return_, 1) → Go Γ b (sg ad nt z) 0 0 pc lv [] m9 := fun pc lv d => hr pc lv _ _ d ⟨rfl, rfl⟩
  show Go Γ b (sg ad nt z) 0 0 0 [(0, .ref (ad 63))] [] m0
  refine g_iconst X (v := 0) dX10_laysBack_0 (by decide) ?_
  refine g_istore_n X (lv' := [(1, .int (0 : Int32)), (0, .ref (ad 63))]) dX10_laysBack_1 rfl (by decide) rfl ?_
  refine g_pick [1, 0] (lv' := [(0, .ref (ad 63)), (1, .int (0 : Int32))]) rfl ?_
  exact w_X10_laysBack_2 X hret 10000 (0 : Int32) m0 hf

def X10_knownAll_4 : Nat → Int32 → Int32 → Mem → Option (Int32 × Mem)
  | 0, _, _, _ => none
  | n + 1, v1, v2, m0 =>
    if (m0.1 63 11) ≤ v2 then
      some (v1, m0)
    else
      bi (X10_knows v2 m0) fun r15 m15 =>
      bi (X10_bitsOf r15 m15) fun r18 m18 =>
      X10_knownAll_4 n (v1 + r18) (v2 + (1 : Int32)) m18
def X10_knownAll (m0 : Mem) : Option (Int32 × Mem) :=
  X10_knownAll_4 10000 (0 : Int32) (0 : Int32) m0
abbrev rmX10_knownAll : Room := { frames := 1, cells := 0, slots := 0, locals := 22 }
set_option maxRecDepth 100000 in
set_option maxHeartbeats 4000000 in
theorem w_X10_knownAll_4 {Γ : Ga} {b : Nat} {ad : Nat → Nat} {nt : Nat} {z : Nat → Nat} {r9 : Int32} {m9 : Mem} (X : Cx Γ b cX10_knownAll 3 RX10 (some .int) rmX10_knownAll) (hret : ∀ (pc : Nat) (lv : List (Nat × Value)), decode cX10_knownAll pc = .ok (.ireturn, 1) → narrow .int (.int r9) = .int r9 → Go Γ b (sg ad nt z) 0 0 pc lv [.int r9] m9) : ∀ (n : Nat) (v1 : Int32) (v2 : Int32) (m0 : Mem), X10_knownAll_4 n v1 v2 m0 = some (r9, m9) → Go Γ b (sg ad nt z) 0 0 4 [(0, .ref (ad 63)), (1, .int v1), (2, .int v2)] [] m0 := by
  intro n
  induction n with
  | zero =>
    intro v1 v2 m0 hf
    cases hf
  | succ n ih =>
    intro v1 v2 m0 hf
    refine g_iload_n X 2 dX10_knownAll_4 rfl rfl ?_
    refine g_aload_n X 0 dX10_knownAll_5 rfl rfl ?_
    refine g_getI X 63 9 11 dX10_knownAll_6 (sgN (by decide)) rfl (by decide) rfl iw_X10 (by decide) rfl q_fl_X10_73 ?_
    refine g_icmp_ge X (tgt := 29) dX10_knownAll_9 (by decide) (fun c9 => ?_) (fun c9 => ?_)
    · have hf := it c9 hf
      refine g_iload_n X 1 dX10_knownAll_29 rfl rfl ?_
      obtain ⟨rfl, rfl⟩ := lf2 hf
      exact hret 30 _ dX10_knownAll_30 rfl
    · have hf := ie c9 hf
      refine g_iload_n X 1 dX10_knownAll_12 rfl rfl ?_
      refine g_aload_n X 0 dX10_knownAll_13 rfl rfl ?_
      refine g_iload_n X 2 dX10_knownAll_14 rfl rfl ?_
      obtain ⟨r15, m15, h15, hf⟩ := bi_i hf
      refine g_eVI X 63 9 [.int v2] kV_X10_351 (c_X10_knows h15) dX10_knownAll_15 rfl rfl (sgN (by decide)) rfl (by decide) rfl rfl ⟨(Nat.le_of_ble_eq_true rfl), (Nat.le_of_ble_eq_true rfl)⟩ ⟨rfl, rfl⟩ ⟨(Nat.zero_le _), (Nat.zero_le _)⟩ (Nat.le_of_ble_eq_true rfl) ?_
      obtain ⟨r18, m18, h18, hf⟩ := bi_i hf
      refine g_eSI X [.int r15] kS_X10_354 (c_X10_bitsOf h18) dX10_knownAll_18 rfl rfl ⟨(Nat.le_of_ble_eq_true rfl), (Nat.le_of_ble_eq_true rfl)⟩ ⟨rfl, rfl⟩ ⟨(Nat.zero_le _), (Nat.zero_le _)⟩ (Nat.le_of_ble_eq_true rfl) ?_
      refine g_iadd X dX10_knownAll_21 ?_
      refine g_istore_n X (lv' := [(1, .int (v1 + r18)), (0, .ref (ad 63)), (2, .int v2)]) dX10_knownAll_22 rfl (by decide) rfl ?_
      refine g_iinc X 2 (v := v2 + (1 : Int32)) (lv' := [(2, .int (v2 + (1 : Int32))), (1, .int (v1 + r18)), (0, .ref (ad 63))]) dX10_knownAll_23 rfl rfl (by decide) rfl ?_
      refine g_goto X (tgt := 4) dX10_knownAll_26 (by decide) ?_
      refine g_pick [2, 1, 0] (lv' := [(0, .ref (ad 63)), (1, .int (v1 + r18)), (2, .int (v2 + (1 : Int32)))]) rfl ?_
      exact ih (v1 + r18) (v2 + (1 : Int32)) m18 hf
set_option maxRecDepth 100000 in
set_option maxHeartbeats 4000000 in
theorem c_X10_knownAll {l : Launch} {G : GG} {b : Nat} {ad : Nat → Nat} {nt : Nat} {z : Nat → Nat} {m0 : Mem} {r9 : Int32} {m9 : Mem} (hf : X10_knownAll m0 = some (r9, m9)) : MtI l yX10_knownAll cX10_knownAll 3 (some .int) rmX10_knownAll G b (sg ad nt z) m0 [.ref (ad 63)] (pEI r9 (sg ad nt z) m9) := by
  refine mtI_of (by decide) (Nat.le_of_ble_eq_true rfl) .int rfl (fun Γ hG X hnm hr => ?_)
  have hret : ∀ (pc : Nat) (lv : List (Nat × Value)), decode cX10_knownAll pc = .ok (.ireturn, 1) → narrow .int (.int r9) = .int r9 → Go Γ b (sg ad nt z) 0 0 pc lv [.int r9] m9 := fun pc lv d hn => hr pc lv _ _ _ d ⟨rfl, rfl, rfl⟩ hn
  show Go Γ b (sg ad nt z) 0 0 0 [(0, .ref (ad 63))] [] m0
  refine g_iconst X (v := 0) dX10_knownAll_0 (by decide) ?_
  refine g_istore_n X (lv' := [(1, .int (0 : Int32)), (0, .ref (ad 63))]) dX10_knownAll_1 rfl (by decide) rfl ?_
  refine g_iconst X (v := 0) dX10_knownAll_2 (by decide) ?_
  refine g_istore_n X (lv' := [(2, .int (0 : Int32)), (1, .int (0 : Int32)), (0, .ref (ad 63))]) dX10_knownAll_3 rfl (by decide) rfl ?_
  refine g_pick [2, 1, 0] (lv' := [(0, .ref (ad 63)), (1, .int (0 : Int32)), (2, .int (0 : Int32))]) rfl ?_
  exact w_X10_knownAll_4 X hret 10000 (0 : Int32) (0 : Int32) m0 hf

def X10_minutesAll_4 : Nat → Int32 → Int32 → Mem → Option (Int32 × Mem)
  | 0, _, _, _ => none
  | n + 1, v1, v2, m0 =>
    if (m0.1 63 11) ≤ v2 then
      some (v1, m0)
    else
      if inn (((5 : Int32) * v2) + (4 : Int32)) 30 then
      X10_minutesAll_4 n (v1 + (m0.1 69 (((5 : Int32) * v2) + (4 : Int32)).toNatClampNeg)) (v2 + (1 : Int32)) m0
      else none
def X10_minutesAll (m0 : Mem) : Option (Int32 × Mem) :=
  X10_minutesAll_4 10000 (0 : Int32) (0 : Int32) m0
abbrev rmX10_minutesAll : Room := { frames := 0, cells := 0, slots := 0, locals := 0 }
set_option maxRecDepth 100000 in
set_option maxHeartbeats 4000000 in
theorem w_X10_minutesAll_4 {Γ : Ga} {b : Nat} {ad : Nat → Nat} {nt : Nat} {z : Nat → Nat} {r9 : Int32} {m9 : Mem} (X : Cx Γ b cX10_minutesAll 3 RX10 (some .int) rmX10_minutesAll) (hret : ∀ (pc : Nat) (lv : List (Nat × Value)), decode cX10_minutesAll pc = .ok (.ireturn, 1) → narrow .int (.int r9) = .int r9 → Go Γ b (sg ad nt z) 0 0 pc lv [.int r9] m9) : ∀ (n : Nat) (v1 : Int32) (v2 : Int32) (m0 : Mem), X10_minutesAll_4 n v1 v2 m0 = some (r9, m9) → Go Γ b (sg ad nt z) 0 0 4 [(0, .ref (ad 63)), (1, .int v1), (2, .int v2)] [] m0 := by
  intro n
  induction n with
  | zero =>
    intro v1 v2 m0 hf
    cases hf
  | succ n ih =>
    intro v1 v2 m0 hf
    refine g_iload_n X 2 dX10_minutesAll_4 rfl rfl ?_
    refine g_aload_n X 0 dX10_minutesAll_5 rfl rfl ?_
    refine g_getI X 63 9 11 dX10_minutesAll_6 (sgN (by decide)) rfl (by decide) rfl iw_X10 (by decide) rfl q_fl_X10_73 ?_
    refine g_icmp_ge X (tgt := 31) dX10_minutesAll_9 (by decide) (fun c9 => ?_) (fun c9 => ?_)
    · have hf := it c9 hf
      refine g_iload_n X 1 dX10_minutesAll_31 rfl rfl ?_
      obtain ⟨rfl, rfl⟩ := lf2 hf
      exact hret 32 _ dX10_minutesAll_32 rfl
    · have hf := ie c9 hf
      refine g_iload_n X 1 dX10_minutesAll_12 rfl rfl ?_
      refine g_aload_n X 0 dX10_minutesAll_13 rfl rfl ?_
      refine g_getr X (x := ad 69) 63 9 10 dX10_minutesAll_14 (sgN (by decide)) rfl (by decide) rfl iw_X10 (by decide) rfl q_fl_X10_29 rfl ?_
      refine g_iconst X (v := 5) dX10_minutesAll_17 (by decide) ?_
      refine g_iload_n X 2 dX10_minutesAll_18 rfl rfl ?_
      refine g_imul X dX10_minutesAll_19 ?_
      refine g_iconst X (v := 4) dX10_minutesAll_20 (by decide) ?_
      refine g_iadd X dX10_minutesAll_21 ?_
      obtain ⟨h22, hf⟩ := grd hf
      refine g_iald X 69 (n := 30) dX10_minutesAll_22 (sgN (by decide)) rfl rfl h22 ?_
      refine g_iadd X dX10_minutesAll_23 ?_
      refine g_istore_n X (lv' := [(1, .int (v1 + (m0.1 69 (((5 : Int32) * v2) + (4 : Int32)).toNatClampNeg))), (0, .ref (ad 63)), (2, .int v2)]) dX10_minutesAll_24 rfl (by decide) rfl ?_
      refine g_iinc X 2 (v := v2 + (1 : Int32)) (lv' := [(2, .int (v2 + (1 : Int32))), (1, .int (v1 + (m0.1 69 (((5 : Int32) * v2) + (4 : Int32)).toNatClampNeg))), (0, .ref (ad 63))]) dX10_minutesAll_25 rfl rfl (by decide) rfl ?_
      refine g_goto X (tgt := 4) dX10_minutesAll_28 (by decide) ?_
      refine g_pick [2, 1, 0] (lv' := [(0, .ref (ad 63)), (1, .int (v1 + (m0.1 69 (((5 : Int32) * v2) + (4 : Int32)).toNatClampNeg))), (2, .int (v2 + (1 : Int32)))]) rfl ?_
      exact ih (v1 + (m0.1 69 (((5 : Int32) * v2) + (4 : Int32)).toNatClampNeg)) (v2 + (1 : Int32)) m0 hf
set_option maxRecDepth 100000 in
set_option maxHeartbeats 4000000 in
theorem c_X10_minutesAll {l : Launch} {G : GG} {b : Nat} {ad : Nat → Nat} {nt : Nat} {z : Nat → Nat} {m0 : Mem} {r9 : Int32} {m9 : Mem} (hf : X10_minutesAll m0 = some (r9, m9)) : MtI l yX10_minutesAll cX10_minutesAll 3 (some .int) rmX10_minutesAll G b (sg ad nt z) m0 [.ref (ad 63)] (pEI r9 (sg ad nt z) m9) := by
  refine mtI_of (by decide) (Nat.le_of_ble_eq_true rfl) .int rfl (fun Γ hG X hnm hr => ?_)
  have hret : ∀ (pc : Nat) (lv : List (Nat × Value)), decode cX10_minutesAll pc = .ok (.ireturn, 1) → narrow .int (.int r9) = .int r9 → Go Γ b (sg ad nt z) 0 0 pc lv [.int r9] m9 := fun pc lv d hn => hr pc lv _ _ _ d ⟨rfl, rfl, rfl⟩ hn
  show Go Γ b (sg ad nt z) 0 0 0 [(0, .ref (ad 63))] [] m0
  refine g_iconst X (v := 0) dX10_minutesAll_0 (by decide) ?_
  refine g_istore_n X (lv' := [(1, .int (0 : Int32)), (0, .ref (ad 63))]) dX10_minutesAll_1 rfl (by decide) rfl ?_
  refine g_iconst X (v := 0) dX10_minutesAll_2 (by decide) ?_
  refine g_istore_n X (lv' := [(2, .int (0 : Int32)), (1, .int (0 : Int32)), (0, .ref (ad 63))]) dX10_minutesAll_3 rfl (by decide) rfl ?_
  refine g_pick [2, 1, 0] (lv' := [(0, .ref (ad 63)), (1, .int (0 : Int32)), (2, .int (0 : Int32))]) rfl ?_
  exact w_X10_minutesAll_4 X hret 10000 (0 : Int32) (0 : Int32) m0 hf

theorem kV_X10_390 : wcV RX10 390 RX10 yX10_minutesAll cX10_minutesAll 3 (some .int) 0 := ⟨q_ml_X10_390, q_im_yX10_minutesAll, q_se_yX10_minutesAll, q_in_X10, q_co_yX10_minutesAll, by decide +kernel⟩

theorem kV_X10_393 : wcV RX10 393 RX10 yX10_laysAside cX10_laysAside 2 (none) 0 := ⟨q_ml_X10_393, q_im_yX10_laysAside, q_se_yX10_laysAside, q_in_X10, q_co_yX10_laysAside, by decide +kernel⟩

theorem kV_X10_399 : wcV RX10 399 RX10 yX10_laysBack cX10_laysBack 2 (none) 0 := ⟨q_ml_X10_399, q_im_yX10_laysBack, q_se_yX10_laysBack, q_in_X10, q_co_yX10_laysBack, by decide +kernel⟩

theorem kV_X10_396 : wcV RX10 396 RX10 yX10_knownAll cX10_knownAll 3 (some .int) 0 := ⟨q_ml_X10_396, q_im_yX10_knownAll, q_se_yX10_knownAll, q_in_X10, q_co_yX10_knownAll, by decide +kernel⟩

def X10_run_113 (s0 : Int32) (m0 : Mem) : Option (Int32 × Mem) :=
  bv (X10_laysBack m0) fun m116 =>
  some (s0, m116)
def X10_run_62 : Nat → Int32 → Int32 → Int32 → Int32 → Mem → Option (Int32 × Mem)
  | 0, _, _, _, _, _ => none
  | n + 1, v1, v2, v3, v4, m0 =>
    if v1 ≤ v4 then
      if v2 = 0 then
        bi (X10_knownAll m0) fun r85 m85 =>
        X10_run_113 r85 m85
      else
        if v2 = (1 : Int32) then
          bi (X10_minutesAll m0) fun r97 m97 =>
          X10_run_113 (r97 - v3) m97
        else
          bi (X10_knows (v2 - (10 : Int32)) m0) fun r110 m110 =>
          X10_run_113 r110 m110
    else
      bi (X10_passes (-1 : Int32) m0) fun r70 m70 =>
      X10_run_62 n v1 v2 v3 (v4 + (1 : Int32)) m70
def X10_run_50 (v1 : Int32) (v2 : Int32) (m0 : Mem) : Option (Int32 × Mem) :=
  bi (X10_minutesAll m0) fun r51 m51 =>
  bv (X10_laysAside m51) fun m56 =>
  X10_run_62 10000 v1 v2 r51 (0 : Int32) m56
def X10_run (p0 : Int32) (p1 : Int32) (m0 : Mem) : Option (Int32 × Mem) :=
  bi (X10_in p0.toInt64 (0 : Int64) (20 : Int64) m0) fun r6 m6 =>
  if r6 = 0 then
    some ((-2 : Int32), m6)
  else
    bi (X10_in p1.toInt64 (0 : Int64) (1 : Int64) m6) fun r16 m16 =>
    if r16 = 0 then
      bi (X10_in p1.toInt64 (10 : Int64) (15 : Int64) m16) fun r30 m30 =>
      if r30 = 0 then
        some ((-2 : Int32), m30)
      else
        bi (X10_isOne (p1 - (10 : Int32)) m30) fun r41 m41 =>
        if r41 = 0 then
          some ((-2 : Int32), m41)
        else
          X10_run_50 p0 p1 m41
    else
      X10_run_50 p0 p1 m16
abbrev rmX10_run : Room := { frames := 47, cells := 0, slots := 0, locals := 1054 }
set_option maxRecDepth 100000 in
set_option maxHeartbeats 4000000 in
theorem w_X10_run_113 {Γ : Ga} {b : Nat} {ad : Nat → Nat} {nt : Nat} {z : Nat → Nat} {r9 : Int32} {m9 : Mem} (X : Cx Γ b cX10_run 5 RX10 (some .int) rmX10_run) (hret : ∀ (pc : Nat) (lv : List (Nat × Value)), decode cX10_run pc = .ok (.ireturn, 1) → narrow .int (.int r9) = .int r9 → Go Γ b (sg ad nt z) 0 0 pc lv [.int r9] m9) (s0 : Int32) (m0 : Mem) (hf : X10_run_113 s0 m0 = some (r9, m9)) : Go Γ b (sg ad nt z) 0 0 113 [(0, .ref (ad 63))] [.int s0] m0 := by
  refine g_istore X (lv' := [(4, .int s0), (0, .ref (ad 63))]) dX10_run_113 (by decide) rfl ?_
  refine g_aload_n X 1 dX10_run_115 rfl rfl ?_
  obtain ⟨m116, h116, hf⟩ := bv_i hf
  refine g_eVV X 63 9 [] kV_X10_399 (c_X10_laysBack h116) dX10_run_116 rfl rfl (sgN (by decide)) rfl (by decide) rfl rfl ⟨(Nat.le_of_ble_eq_true rfl), (Nat.le_of_ble_eq_true rfl)⟩ ⟨rfl, rfl⟩ ⟨(Nat.zero_le _), (Nat.zero_le _)⟩ (Nat.le_of_ble_eq_true rfl) ?_
  refine g_iload X 0 dX10_run_119 rfl ?_
  obtain ⟨rfl, rfl⟩ := lf2 hf
  exact hret 121 _ dX10_run_121 rfl
set_option maxRecDepth 100000 in
set_option maxHeartbeats 4000000 in
theorem w_X10_run_62 {Γ : Ga} {b : Nat} {ad : Nat → Nat} {nt : Nat} {z : Nat → Nat} {r9 : Int32} {m9 : Mem} (X : Cx Γ b cX10_run 5 RX10 (some .int) rmX10_run) (hret : ∀ (pc : Nat) (lv : List (Nat × Value)), decode cX10_run pc = .ok (.ireturn, 1) → narrow .int (.int r9) = .int r9 → Go Γ b (sg ad nt z) 0 0 pc lv [.int r9] m9) : ∀ (n : Nat) (v1 : Int32) (v2 : Int32) (v3 : Int32) (v4 : Int32) (m0 : Mem), X10_run_62 n v1 v2 v3 v4 m0 = some (r9, m9) → Go Γ b (sg ad nt z) 0 0 62 [(0, .ref (ad 63)), (1, .int v1), (2, .int v2), (3, .int v3), (4, .int v4)] [] m0 := by
  intro n
  induction n with
  | zero =>
    intro v1 v2 v3 v4 m0 hf
    cases hf
  | succ n ih =>
    intro v1 v2 v3 v4 m0 hf
    refine g_iload X 4 dX10_run_62 rfl ?_
    refine g_iload_n X 1 dX10_run_64 rfl rfl ?_
    refine g_icmp_ge X (tgt := 80) dX10_run_65 (by decide) (fun c65 => ?_) (fun c65 => ?_)
    · have hf := it c65 hf
      refine g_iload_n X 2 dX10_run_80 rfl rfl ?_
      refine g_if_ne X (tgt := 91) dX10_run_81 (by decide) (fun c81 => ?_) (fun c81 => ?_)
      · have hf := ie c81 hf
        refine g_iload_n X 2 dX10_run_91 rfl rfl ?_
        refine g_iconst X (v := 1) dX10_run_92 (by decide) ?_
        refine g_icmp_ne X (tgt := 105) dX10_run_93 (by decide) (fun c93 => ?_) (fun c93 => ?_)
        · have hf := ie c93 hf
          refine g_aload_n X 0 dX10_run_105 rfl rfl ?_
          refine g_iload_n X 2 dX10_run_106 rfl rfl ?_
          refine g_bipush X (v := 10) dX10_run_107 (by decide) ?_
          refine g_isub X dX10_run_109 ?_
          obtain ⟨r110, m110, h110, hf⟩ := bi_i hf
          refine g_eVI X 63 9 [.int (v2 - (10 : Int32))] kV_X10_351 (c_X10_knows h110) dX10_run_110 rfl rfl (sgN (by decide)) rfl (by decide) rfl rfl ⟨(Nat.le_of_ble_eq_true rfl), (Nat.le_of_ble_eq_true rfl)⟩ ⟨rfl, rfl⟩ ⟨(Nat.zero_le _), (Nat.zero_le _)⟩ (Nat.le_of_ble_eq_true rfl) ?_
          refine g_pick [0] (lv' := [(0, .ref (ad 63))]) rfl ?_
          exact w_X10_run_113 X hret r110 m110 hf
        · have hf := it c93 hf
          refine g_aload_n X 0 dX10_run_96 rfl rfl ?_
          obtain ⟨r97, m97, h97, hf⟩ := bi_i hf
          refine g_eVI X 63 9 [] kV_X10_390 (c_X10_minutesAll h97) dX10_run_97 rfl rfl (sgN (by decide)) rfl (by decide) rfl rfl ⟨(Nat.le_of_ble_eq_true rfl), (Nat.le_of_ble_eq_true rfl)⟩ ⟨rfl, rfl⟩ ⟨(Nat.zero_le _), (Nat.zero_le _)⟩ (Nat.le_of_ble_eq_true rfl) ?_
          refine g_iload_n X 3 dX10_run_100 rfl rfl ?_
          refine g_isub X dX10_run_101 ?_
          refine g_goto X (tgt := 113) dX10_run_102 (by decide) ?_
          refine g_pick [0] (lv' := [(0, .ref (ad 63))]) rfl ?_
          exact w_X10_run_113 X hret (r97 - v3) m97 hf
      · have hf := it c81 hf
        refine g_aload_n X 0 dX10_run_84 rfl rfl ?_
        obtain ⟨r85, m85, h85, hf⟩ := bi_i hf
        refine g_eVI X 63 9 [] kV_X10_396 (c_X10_knownAll h85) dX10_run_85 rfl rfl (sgN (by decide)) rfl (by decide) rfl rfl ⟨(Nat.le_of_ble_eq_true rfl), (Nat.le_of_ble_eq_true rfl)⟩ ⟨rfl, rfl⟩ ⟨(Nat.zero_le _), (Nat.zero_le _)⟩ (Nat.le_of_ble_eq_true rfl) ?_
        refine g_goto X (tgt := 113) dX10_run_88 (by decide) ?_
        refine g_pick [0] (lv' := [(0, .ref (ad 63))]) rfl ?_
        exact w_X10_run_113 X hret r85 m85 hf
    · have hf := ie c65 hf
      refine g_aload_n X 0 dX10_run_68 rfl rfl ?_
      refine g_iconst X (v := -1) dX10_run_69 (by decide) ?_
      obtain ⟨r70, m70, h70, hf⟩ := bi_i hf
      refine g_eVI X 63 9 [.int (-1 : Int32)] kV_X10_382 (c_X10_passes h70) dX10_run_70 rfl rfl (sgN (by decide)) rfl (by decide) rfl rfl ⟨(Nat.le_of_ble_eq_true rfl), (Nat.le_of_ble_eq_true rfl)⟩ ⟨rfl, rfl⟩ ⟨(Nat.zero_le _), (Nat.zero_le _)⟩ (Nat.le_of_ble_eq_true rfl) ?_
      refine g_pop X dX10_run_73 rfl ?_
      refine g_iinc X 4 (v := v4 + (1 : Int32)) (lv' := [(4, .int (v4 + (1 : Int32))), (0, .ref (ad 63)), (1, .int v1), (2, .int v2), (3, .int v3)]) dX10_run_74 rfl rfl (by decide) rfl ?_
      refine g_goto X (tgt := 62) dX10_run_77 (by decide) ?_
      refine g_pick [1, 2, 3, 4, 0] (lv' := [(0, .ref (ad 63)), (1, .int v1), (2, .int v2), (3, .int v3), (4, .int (v4 + (1 : Int32)))]) rfl ?_
      exact ih v1 v2 v3 (v4 + (1 : Int32)) m70 hf
set_option maxRecDepth 100000 in
set_option maxHeartbeats 4000000 in
theorem w_X10_run_50 {Γ : Ga} {b : Nat} {ad : Nat → Nat} {nt : Nat} {z : Nat → Nat} {r9 : Int32} {m9 : Mem} (X : Cx Γ b cX10_run 5 RX10 (some .int) rmX10_run) (hret : ∀ (pc : Nat) (lv : List (Nat × Value)), decode cX10_run pc = .ok (.ireturn, 1) → narrow .int (.int r9) = .int r9 → Go Γ b (sg ad nt z) 0 0 pc lv [.int r9] m9) (v1 : Int32) (v2 : Int32) (m0 : Mem) (hf : X10_run_50 v1 v2 m0 = some (r9, m9)) : Go Γ b (sg ad nt z) 0 0 50 [(0, .ref (ad 63)), (1, .int v1), (2, .int v2)] [] m0 := by
  refine g_aload_n X 0 dX10_run_50 rfl rfl ?_
  obtain ⟨r51, m51, h51, hf⟩ := bi_i hf
  refine g_eVI X 63 9 [] kV_X10_390 (c_X10_minutesAll h51) dX10_run_51 rfl rfl (sgN (by decide)) rfl (by decide) rfl rfl ⟨(Nat.le_of_ble_eq_true rfl), (Nat.le_of_ble_eq_true rfl)⟩ ⟨rfl, rfl⟩ ⟨(Nat.zero_le _), (Nat.zero_le _)⟩ (Nat.le_of_ble_eq_true rfl) ?_
  refine g_istore_n X (lv' := [(3, .int r51), (0, .ref (ad 63)), (1, .int v1), (2, .int v2)]) dX10_run_54 rfl (by decide) rfl ?_
  refine g_aload_n X 1 dX10_run_55 rfl rfl ?_
  obtain ⟨m56, h56, hf⟩ := bv_i hf
  refine g_eVV X 63 9 [] kV_X10_393 (c_X10_laysAside h56) dX10_run_56 rfl rfl (sgN (by decide)) rfl (by decide) rfl rfl ⟨(Nat.le_of_ble_eq_true rfl), (Nat.le_of_ble_eq_true rfl)⟩ ⟨rfl, rfl⟩ ⟨(Nat.zero_le _), (Nat.zero_le _)⟩ (Nat.le_of_ble_eq_true rfl) ?_
  refine g_iconst X (v := 0) dX10_run_59 (by decide) ?_
  refine g_istore X (lv' := [(4, .int (0 : Int32)), (3, .int r51), (0, .ref (ad 63)), (1, .int v1), (2, .int v2)]) dX10_run_60 (by decide) rfl ?_
  refine g_pick [2, 3, 4, 1, 0] (lv' := [(0, .ref (ad 63)), (1, .int v1), (2, .int v2), (3, .int r51), (4, .int (0 : Int32))]) rfl ?_
  exact w_X10_run_62 X hret 10000 v1 v2 r51 (0 : Int32) m56 hf
set_option maxRecDepth 100000 in
set_option maxHeartbeats 4000000 in
theorem c_X10_run {l : Launch} {G : GG} {b : Nat} {ad : Nat → Nat} {nt : Nat} {z : Nat → Nat} {p0 : Int32} {p1 : Int32} {m0 : Mem} {r9 : Int32} {m9 : Mem} (hf : X10_run p0 p1 m0 = some (r9, m9)) : MtI l yX10_run cX10_run 5 (some .int) rmX10_run G b (sg ad nt z) m0 [.ref (ad 63), .int p0, .int p1] (pEI r9 (sg ad nt z) m9) := by
  refine mtI_of (by decide) (Nat.le_of_ble_eq_true rfl) .int rfl (fun Γ hG X hnm hr => ?_)
  have hret : ∀ (pc : Nat) (lv : List (Nat × Value)), decode cX10_run pc = .ok (.ireturn, 1) → narrow .int (.int r9) = .int r9 → Go Γ b (sg ad nt z) 0 0 pc lv [.int r9] m9 := fun pc lv d hn => hr pc lv _ _ _ d ⟨rfl, rfl, rfl⟩ hn
  show Go Γ b (sg ad nt z) 0 0 0 [(0, .ref (ad 63)), (1, .int p0), (2, .int p1)] [] m0
  refine g_iload_n X 1 dX10_run_0 rfl rfl ?_
  refine g_i2l X dX10_run_1 ?_
  refine g_lconst X (v := 0) dX10_run_2 (by decide) ?_
  refine g_ldc2 X dX10_run_3 q_cl_X10_121 ?_
  obtain ⟨r6, m6, h6, hf⟩ := bi_i hf
  refine g_eSI X [.long p0.toInt64, .long (0 : Int64), .long (20 : Int64)] kS_X10_76 (c_X10_in h6) dX10_run_6 rfl rfl ⟨(Nat.le_of_ble_eq_true rfl), (Nat.le_of_ble_eq_true rfl)⟩ ⟨rfl, rfl⟩ ⟨(Nat.zero_le _), (Nat.zero_le _)⟩ (Nat.le_of_ble_eq_true rfl) ?_
  refine g_if_eq X (tgt := 47) dX10_run_9 (by decide) (fun c9 => ?_) (fun c9 => ?_)
  · have hf := it c9 hf
    refine g_bipush X (v := -2) dX10_run_47 (by decide) ?_
    obtain ⟨rfl, rfl⟩ := lf2 hf
    exact hret 49 _ dX10_run_49 rfl
  · have hf := ie c9 hf
    refine g_iload_n X 2 dX10_run_12 rfl rfl ?_
    refine g_i2l X dX10_run_13 ?_
    refine g_lconst X (v := 0) dX10_run_14 (by decide) ?_
    refine g_lconst X (v := 1) dX10_run_15 (by decide) ?_
    obtain ⟨r16, m16, h16, hf⟩ := bi_i hf
    refine g_eSI X [.long p1.toInt64, .long (0 : Int64), .long (1 : Int64)] kS_X10_76 (c_X10_in h16) dX10_run_16 rfl rfl ⟨(Nat.le_of_ble_eq_true rfl), (Nat.le_of_ble_eq_true rfl)⟩ ⟨rfl, rfl⟩ ⟨(Nat.zero_le _), (Nat.zero_le _)⟩ (Nat.le_of_ble_eq_true rfl) ?_
    refine g_if_ne X (tgt := 50) dX10_run_19 (by decide) (fun c19 => ?_) (fun c19 => ?_)
    · have hf := ie c19 hf
      exact w_X10_run_50 X hret p0 p1 m16 hf
    · have hf := it c19 hf
      refine g_iload_n X 2 dX10_run_22 rfl rfl ?_
      refine g_i2l X dX10_run_23 ?_
      refine g_ldc2 X dX10_run_24 q_cl_X10_117 ?_
      refine g_ldc2 X dX10_run_27 q_cl_X10_388 ?_
      obtain ⟨r30, m30, h30, hf⟩ := bi_i hf
      refine g_eSI X [.long p1.toInt64, .long (10 : Int64), .long (15 : Int64)] kS_X10_76 (c_X10_in h30) dX10_run_30 rfl rfl ⟨(Nat.le_of_ble_eq_true rfl), (Nat.le_of_ble_eq_true rfl)⟩ ⟨rfl, rfl⟩ ⟨(Nat.zero_le _), (Nat.zero_le _)⟩ (Nat.le_of_ble_eq_true rfl) ?_
      refine g_if_eq X (tgt := 47) dX10_run_33 (by decide) (fun c33 => ?_) (fun c33 => ?_)
      · have hf := it c33 hf
        refine g_bipush X (v := -2) dX10_run_47 (by decide) ?_
        obtain ⟨rfl, rfl⟩ := lf2 hf
        exact hret 49 _ dX10_run_49 rfl
      · have hf := ie c33 hf
        refine g_aload_n X 0 dX10_run_36 rfl rfl ?_
        refine g_iload_n X 2 dX10_run_37 rfl rfl ?_
        refine g_bipush X (v := 10) dX10_run_38 (by decide) ?_
        refine g_isub X dX10_run_40 ?_
        obtain ⟨r41, m41, h41, hf⟩ := bi_i hf
        refine g_eVI X 63 9 [.int (p1 - (10 : Int32))] kV_X10_84 (c_X10_isOne h41) dX10_run_41 rfl rfl (sgN (by decide)) rfl (by decide) rfl rfl ⟨(Nat.le_of_ble_eq_true rfl), (Nat.le_of_ble_eq_true rfl)⟩ ⟨rfl, rfl⟩ ⟨(Nat.zero_le _), (Nat.zero_le _)⟩ (Nat.le_of_ble_eq_true rfl) ?_
        refine g_if_ne X (tgt := 50) dX10_run_44 (by decide) (fun c44 => ?_) (fun c44 => ?_)
        · have hf := ie c44 hf
          exact w_X10_run_50 X hret p0 p1 m41 hf
        · have hf := it c44 hf
          refine g_bipush X (v := -2) dX10_run_47 (by decide) ?_
          obtain ⟨rfl, rfl⟩ := lf2 hf
          exact hret 49 _ dX10_run_49 rfl

def X10_all_53 : Nat → Int32 → Int32 → Int32 → Int32 → Mem → Option (Int32 × Mem)
  | 0, _, _, _, _, _ => none
  | n + 1, v1, v2, v3, v4, m0 =>
    if (m0.1 63 11) ≤ v4 then
      if v1 = 0 then
        bi (X10_knownAll m0) fun r91 m91 =>
        some (r91, m91)
      else
        if v1 = (1 : Int32) then
          some (v2, m0)
        else
          some (v3, m0)
    else
      bi (X10_knows v4 m0) fun r66 m66 =>
      bi (X10_knows v4 m66) fun r75 m75 =>
      X10_all_53 n v1 (v2 ||| r66) (v3 &&& r75) (v4 + (1 : Int32)) m75
def X10_all (p0 : Int32) (m0 : Mem) : Option (Int32 × Mem) :=
  bi (X10_in p0.toInt64 (0 : Int64) (3 : Int64) m0) fun r6 m6 =>
  if r6 = 0 then
    some ((-2 : Int32), m6)
  else
    if p0 = (3 : Int32) then
      bv (X10_laysAside m6) fun m21 =>
      bi (X10_passes (-1 : Int32) m21) fun r26 m26 =>
      bv (X10_laysBack m26) fun m31 =>
      if r26 = 0 then
        some ((1 : Int32), m31)
      else
        some ((0 : Int32), m31)
    else
      X10_all_53 10000 p0 (0 : Int32) (255 : Int32) (0 : Int32) m6
abbrev rmX10_all : Room := { frames := 47, cells := 0, slots := 0, locals := 1054 }
set_option maxRecDepth 100000 in
set_option maxHeartbeats 4000000 in
theorem w_X10_all_53 {Γ : Ga} {b : Nat} {ad : Nat → Nat} {nt : Nat} {z : Nat → Nat} {r9 : Int32} {m9 : Mem} (X : Cx Γ b cX10_all 5 RX10 (some .int) rmX10_all) (hret : ∀ (pc : Nat) (lv : List (Nat × Value)), decode cX10_all pc = .ok (.ireturn, 1) → narrow .int (.int r9) = .int r9 → Go Γ b (sg ad nt z) 0 0 pc lv [.int r9] m9) : ∀ (n : Nat) (v1 : Int32) (v2 : Int32) (v3 : Int32) (v4 : Int32) (m0 : Mem), X10_all_53 n v1 v2 v3 v4 m0 = some (r9, m9) → Go Γ b (sg ad nt z) 0 0 53 [(0, .ref (ad 63)), (1, .int v1), (2, .int v2), (3, .int v3), (4, .int v4)] [] m0 := by
  intro n
  induction n with
  | zero =>
    intro v1 v2 v3 v4 m0 hf
    cases hf
  | succ n ih =>
    intro v1 v2 v3 v4 m0 hf
    refine g_iload X 4 dX10_all_53 rfl ?_
    refine g_aload_n X 0 dX10_all_55 rfl rfl ?_
    refine g_getI X 63 9 11 dX10_all_56 (sgN (by decide)) rfl (by decide) rfl iw_X10 (by decide) rfl q_fl_X10_73 ?_
    refine g_icmp_ge X (tgt := 86) dX10_all_59 (by decide) (fun c59 => ?_) (fun c59 => ?_)
    · have hf := it c59 hf
      refine g_iload_n X 1 dX10_all_86 rfl rfl ?_
      refine g_if_ne X (tgt := 97) dX10_all_87 (by decide) (fun c87 => ?_) (fun c87 => ?_)
      · have hf := ie c87 hf
        refine g_iload_n X 1 dX10_all_97 rfl rfl ?_
        refine g_iconst X (v := 1) dX10_all_98 (by decide) ?_
        refine g_icmp_ne X (tgt := 106) dX10_all_99 (by decide) (fun c99 => ?_) (fun c99 => ?_)
        · have hf := ie c99 hf
          refine g_iload_n X 3 dX10_all_106 rfl rfl ?_
          obtain ⟨rfl, rfl⟩ := lf2 hf
          exact hret 107 _ dX10_all_107 rfl
        · have hf := it c99 hf
          refine g_iload_n X 2 dX10_all_102 rfl rfl ?_
          refine g_goto X (tgt := 107) dX10_all_103 (by decide) ?_
          obtain ⟨rfl, rfl⟩ := lf2 hf
          exact hret 107 _ dX10_all_107 rfl
      · have hf := it c87 hf
        refine g_aload_n X 0 dX10_all_90 rfl rfl ?_
        obtain ⟨r91, m91, h91, hf⟩ := bi_i hf
        refine g_eVI X 63 9 [] kV_X10_396 (c_X10_knownAll h91) dX10_all_91 rfl rfl (sgN (by decide)) rfl (by decide) rfl rfl ⟨(Nat.le_of_ble_eq_true rfl), (Nat.le_of_ble_eq_true rfl)⟩ ⟨rfl, rfl⟩ ⟨(Nat.zero_le _), (Nat.zero_le _)⟩ (Nat.le_of_ble_eq_true rfl) ?_
        refine g_goto X (tgt := 107) dX10_all_94 (by decide) ?_
        obtain ⟨rfl, rfl⟩ := lf2 hf
        exact hret 107 _ dX10_all_107 rfl
    · have hf := ie c59 hf
      refine g_iload_n X 2 dX10_all_62 rfl rfl ?_
      refine g_aload_n X 0 dX10_all_63 rfl rfl ?_
      refine g_iload X 4 dX10_all_64 rfl ?_
      obtain ⟨r66, m66, h66, hf⟩ := bi_i hf
      refine g_eVI X 63 9 [.int v4] kV_X10_351 (c_X10_knows h66) dX10_all_66 rfl rfl (sgN (by decide)) rfl (by decide) rfl rfl ⟨(Nat.le_of_ble_eq_true rfl), (Nat.le_of_ble_eq_true rfl)⟩ ⟨rfl, rfl⟩ ⟨(Nat.zero_le _), (Nat.zero_le _)⟩ (Nat.le_of_ble_eq_true rfl) ?_
      refine g_ior X dX10_all_69 ?_
      refine g_istore_n X (lv' := [(2, .int (v2 ||| r66)), (0, .ref (ad 63)), (1, .int v1), (3, .int v3), (4, .int v4)]) dX10_all_70 rfl (by decide) rfl ?_
      refine g_iload_n X 3 dX10_all_71 rfl rfl ?_
      refine g_aload_n X 1 dX10_all_72 rfl rfl ?_
      refine g_iload X 4 dX10_all_73 rfl ?_
      obtain ⟨r75, m75, h75, hf⟩ := bi_i hf
      refine g_eVI X 63 9 [.int v4] kV_X10_351 (c_X10_knows h75) dX10_all_75 rfl rfl (sgN (by decide)) rfl (by decide) rfl rfl ⟨(Nat.le_of_ble_eq_true rfl), (Nat.le_of_ble_eq_true rfl)⟩ ⟨rfl, rfl⟩ ⟨(Nat.zero_le _), (Nat.zero_le _)⟩ (Nat.le_of_ble_eq_true rfl) ?_
      refine g_iand X dX10_all_78 ?_
      refine g_istore_n X (lv' := [(3, .int (v3 &&& r75)), (2, .int (v2 ||| r66)), (0, .ref (ad 63)), (1, .int v1), (4, .int v4)]) dX10_all_79 rfl (by decide) rfl ?_
      refine g_iinc X 4 (v := v4 + (1 : Int32)) (lv' := [(4, .int (v4 + (1 : Int32))), (3, .int (v3 &&& r75)), (2, .int (v2 ||| r66)), (0, .ref (ad 63)), (1, .int v1)]) dX10_all_80 rfl rfl (by decide) rfl ?_
      refine g_goto X (tgt := 53) dX10_all_83 (by decide) ?_
      refine g_pick [3, 4, 2, 1, 0] (lv' := [(0, .ref (ad 63)), (1, .int v1), (2, .int (v2 ||| r66)), (3, .int (v3 &&& r75)), (4, .int (v4 + (1 : Int32)))]) rfl ?_
      exact ih v1 (v2 ||| r66) (v3 &&& r75) (v4 + (1 : Int32)) m75 hf
set_option maxRecDepth 100000 in
set_option maxHeartbeats 4000000 in
theorem c_X10_all {l : Launch} {G : GG} {b : Nat} {ad : Nat → Nat} {nt : Nat} {z : Nat → Nat} {p0 : Int32} {m0 : Mem} {r9 : Int32} {m9 : Mem} (hf : X10_all p0 m0 = some (r9, m9)) : MtI l yX10_all cX10_all 5 (some .int) rmX10_all G b (sg ad nt z) m0 [.ref (ad 63), .int p0] (pEI r9 (sg ad nt z) m9) := by
  refine mtI_of (by decide) (Nat.le_of_ble_eq_true rfl) .int rfl (fun Γ hG X hnm hr => ?_)
  have hret : ∀ (pc : Nat) (lv : List (Nat × Value)), decode cX10_all pc = .ok (.ireturn, 1) → narrow .int (.int r9) = .int r9 → Go Γ b (sg ad nt z) 0 0 pc lv [.int r9] m9 := fun pc lv d hn => hr pc lv _ _ _ d ⟨rfl, rfl, rfl⟩ hn
  show Go Γ b (sg ad nt z) 0 0 0 [(0, .ref (ad 63)), (1, .int p0)] [] m0
  refine g_iload_n X 1 dX10_all_0 rfl rfl ?_
  refine g_i2l X dX10_all_1 ?_
  refine g_lconst X (v := 0) dX10_all_2 (by decide) ?_
  refine g_ldc2 X dX10_all_3 q_cl_X10_402 ?_
  obtain ⟨r6, m6, h6, hf⟩ := bi_i hf
  refine g_eSI X [.long p0.toInt64, .long (0 : Int64), .long (3 : Int64)] kS_X10_76 (c_X10_in h6) dX10_all_6 rfl rfl ⟨(Nat.le_of_ble_eq_true rfl), (Nat.le_of_ble_eq_true rfl)⟩ ⟨rfl, rfl⟩ ⟨(Nat.zero_le _), (Nat.zero_le _)⟩ (Nat.le_of_ble_eq_true rfl) ?_
  refine g_if_ne X (tgt := 15) dX10_all_9 (by decide) (fun c9 => ?_) (fun c9 => ?_)
  · have hf := ie c9 hf
    refine g_iload_n X 1 dX10_all_15 rfl rfl ?_
    refine g_iconst X (v := 3) dX10_all_16 (by decide) ?_
    refine g_icmp_ne X (tgt := 44) dX10_all_17 (by decide) (fun c17 => ?_) (fun c17 => ?_)
    · have hf := ie c17 hf
      refine g_iconst X (v := 0) dX10_all_44 (by decide) ?_
      refine g_istore_n X (lv' := [(2, .int (0 : Int32)), (0, .ref (ad 63)), (1, .int p0)]) dX10_all_45 rfl (by decide) rfl ?_
      refine g_sipush X (v := 255) dX10_all_46 (by decide) ?_
      refine g_istore_n X (lv' := [(3, .int (255 : Int32)), (2, .int (0 : Int32)), (0, .ref (ad 63)), (1, .int p0)]) dX10_all_49 rfl (by decide) rfl ?_
      refine g_iconst X (v := 0) dX10_all_50 (by decide) ?_
      refine g_istore X (lv' := [(4, .int (0 : Int32)), (3, .int (255 : Int32)), (2, .int (0 : Int32)), (0, .ref (ad 63)), (1, .int p0)]) dX10_all_51 (by decide) rfl ?_
      refine g_pick [3, 4, 2, 1, 0] (lv' := [(0, .ref (ad 63)), (1, .int p0), (2, .int (0 : Int32)), (3, .int (255 : Int32)), (4, .int (0 : Int32))]) rfl ?_
      exact w_X10_all_53 X hret 10000 p0 (0 : Int32) (255 : Int32) (0 : Int32) m6 hf
    · have hf := it c17 hf
      refine g_aload_n X 0 dX10_all_20 rfl rfl ?_
      obtain ⟨m21, h21, hf⟩ := bv_i hf
      refine g_eVV X 63 9 [] kV_X10_393 (c_X10_laysAside h21) dX10_all_21 rfl rfl (sgN (by decide)) rfl (by decide) rfl rfl ⟨(Nat.le_of_ble_eq_true rfl), (Nat.le_of_ble_eq_true rfl)⟩ ⟨rfl, rfl⟩ ⟨(Nat.zero_le _), (Nat.zero_le _)⟩ (Nat.le_of_ble_eq_true rfl) ?_
      refine g_aload_n X 0 dX10_all_24 rfl rfl ?_
      refine g_iconst X (v := -1) dX10_all_25 (by decide) ?_
      obtain ⟨r26, m26, h26, hf⟩ := bi_i hf
      refine g_eVI X 63 9 [.int (-1 : Int32)] kV_X10_382 (c_X10_passes h26) dX10_all_26 rfl rfl (sgN (by decide)) rfl (by decide) rfl rfl ⟨(Nat.le_of_ble_eq_true rfl), (Nat.le_of_ble_eq_true rfl)⟩ ⟨rfl, rfl⟩ ⟨(Nat.zero_le _), (Nat.zero_le _)⟩ (Nat.le_of_ble_eq_true rfl) ?_
      refine g_istore_n X (lv' := [(2, .int r26), (0, .ref (ad 63)), (1, .int p0)]) dX10_all_29 rfl (by decide) rfl ?_
      refine g_aload_n X 1 dX10_all_30 rfl rfl ?_
      obtain ⟨m31, h31, hf⟩ := bv_i hf
      refine g_eVV X 63 9 [] kV_X10_399 (c_X10_laysBack h31) dX10_all_31 rfl rfl (sgN (by decide)) rfl (by decide) rfl rfl ⟨(Nat.le_of_ble_eq_true rfl), (Nat.le_of_ble_eq_true rfl)⟩ ⟨rfl, rfl⟩ ⟨(Nat.zero_le _), (Nat.zero_le _)⟩ (Nat.le_of_ble_eq_true rfl) ?_
      refine g_iload_n X 0 dX10_all_34 rfl rfl ?_
      refine g_if_ne X (tgt := 42) dX10_all_35 (by decide) (fun c35 => ?_) (fun c35 => ?_)
      · have hf := ie c35 hf
        refine g_iconst X (v := 0) dX10_all_42 (by decide) ?_
        obtain ⟨rfl, rfl⟩ := lf2 hf
        exact hret 43 _ dX10_all_43 rfl
      · have hf := it c35 hf
        refine g_iconst X (v := 1) dX10_all_38 (by decide) ?_
        refine g_goto X (tgt := 43) dX10_all_39 (by decide) ?_
        obtain ⟨rfl, rfl⟩ := lf2 hf
        exact hret 43 _ dX10_all_43 rfl
  · have hf := it c9 hf
    refine g_bipush X (v := -2) dX10_all_12 (by decide) ?_
    obtain ⟨rfl, rfl⟩ := lf2 hf
    exact hret 14 _ dX10_all_14 rfl

def X10_soon_54 (v3 : Int32) (m0 : Mem) : Option (Int32 × Mem) :=
  bv (X10_laysBack m0) fun m55 =>
  if v3 ≤ (20 : Int32) then
    some (v3, m55)
  else
    some ((-1 : Int32), m55)
def X10_soon_24 : Nat → Int32 → Int32 → Int32 → Mem → Option (Int32 × Mem)
  | 0, _, _, _, _ => none
  | n + 1, v1, v2, v3, m0 =>
    if (20 : Int32) < v3 then
      X10_soon_54 v3 m0
    else
      bi (X10_knows v1 m0) fun r32 m32 =>
      if ((r32 >>> (v2 &&& 31)) &&& (1 : Int32)) = 0 then
        bi (X10_passes (-1 : Int32) m32) fun r44 m44 =>
        X10_soon_24 n v1 v2 (v3 + (1 : Int32)) m44
      else
        X10_soon_54 v3 m32
def X10_soon (p0 : Int32) (p1 : Int32) (m0 : Mem) : Option (Int32 × Mem) :=
  bi (X10_isOne p0 m0) fun r2 m2 =>
  if r2 = 0 then
    some ((-2 : Int32), m2)
  else
    bi (X10_isPlace p1 m2) fun r9 m9 =>
    if r9 = 0 then
      some ((-2 : Int32), m9)
    else
      bv (X10_laysAside m9) fun m19 =>
      X10_soon_24 10000 p0 p1 (0 : Int32) m19
abbrev rmX10_soon : Room := { frames := 47, cells := 0, slots := 0, locals := 1054 }
set_option maxRecDepth 100000 in
set_option maxHeartbeats 4000000 in
theorem w_X10_soon_54 {Γ : Ga} {b : Nat} {ad : Nat → Nat} {nt : Nat} {z : Nat → Nat} {r9 : Int32} {m9 : Mem} (X : Cx Γ b cX10_soon 4 RX10 (some .int) rmX10_soon) (hret : ∀ (pc : Nat) (lv : List (Nat × Value)), decode cX10_soon pc = .ok (.ireturn, 1) → narrow .int (.int r9) = .int r9 → Go Γ b (sg ad nt z) 0 0 pc lv [.int r9] m9) (v3 : Int32) (m0 : Mem) (hf : X10_soon_54 v3 m0 = some (r9, m9)) : Go Γ b (sg ad nt z) 0 0 54 [(0, .ref (ad 63)), (3, .int v3)] [] m0 := by
  refine g_aload_n X 0 dX10_soon_54 rfl rfl ?_
  obtain ⟨m55, h55, hf⟩ := bv_i hf
  refine g_eVV X 63 9 [] kV_X10_399 (c_X10_laysBack h55) dX10_soon_55 rfl rfl (sgN (by decide)) rfl (by decide) rfl rfl ⟨(Nat.le_of_ble_eq_true rfl), (Nat.le_of_ble_eq_true rfl)⟩ ⟨rfl, rfl⟩ ⟨(Nat.zero_le _), (Nat.zero_le _)⟩ (Nat.le_of_ble_eq_true rfl) ?_
  refine g_iload_n X 1 dX10_soon_58 rfl rfl ?_
  refine g_bipush X (v := 20) dX10_soon_59 (by decide) ?_
  refine g_icmp_le X (tgt := 68) dX10_soon_61 (by decide) (fun c61 => ?_) (fun c61 => ?_)
  · have hf := it c61 hf
    refine g_iload_n X 1 dX10_soon_68 rfl rfl ?_
    obtain ⟨rfl, rfl⟩ := lf2 hf
    exact hret 69 _ dX10_soon_69 rfl
  · have hf := ie c61 hf
    refine g_iconst X (v := -1) dX10_soon_64 (by decide) ?_
    refine g_goto X (tgt := 69) dX10_soon_65 (by decide) ?_
    obtain ⟨rfl, rfl⟩ := lf2 hf
    exact hret 69 _ dX10_soon_69 rfl
set_option maxRecDepth 100000 in
set_option maxHeartbeats 4000000 in
theorem w_X10_soon_24 {Γ : Ga} {b : Nat} {ad : Nat → Nat} {nt : Nat} {z : Nat → Nat} {r9 : Int32} {m9 : Mem} (X : Cx Γ b cX10_soon 4 RX10 (some .int) rmX10_soon) (hret : ∀ (pc : Nat) (lv : List (Nat × Value)), decode cX10_soon pc = .ok (.ireturn, 1) → narrow .int (.int r9) = .int r9 → Go Γ b (sg ad nt z) 0 0 pc lv [.int r9] m9) : ∀ (n : Nat) (v1 : Int32) (v2 : Int32) (v3 : Int32) (m0 : Mem), X10_soon_24 n v1 v2 v3 m0 = some (r9, m9) → Go Γ b (sg ad nt z) 0 0 24 [(0, .ref (ad 63)), (1, .int v1), (2, .int v2), (3, .int v3)] [] m0 := by
  intro n
  induction n with
  | zero =>
    intro v1 v2 v3 m0 hf
    cases hf
  | succ n ih =>
    intro v1 v2 v3 m0 hf
    refine g_iload_n X 3 dX10_soon_24 rfl rfl ?_
    refine g_bipush X (v := 20) dX10_soon_25 (by decide) ?_
    refine g_icmp_gt X (tgt := 54) dX10_soon_27 (by decide) (fun c27 => ?_) (fun c27 => ?_)
    · have hf := it c27 hf
      refine g_pick [0, 3] (lv' := [(0, .ref (ad 63)), (3, .int v3)]) rfl ?_
      exact w_X10_soon_54 X hret v3 m0 hf
    · have hf := ie c27 hf
      refine g_aload_n X 0 dX10_soon_30 rfl rfl ?_
      refine g_iload_n X 1 dX10_soon_31 rfl rfl ?_
      obtain ⟨r32, m32, h32, hf⟩ := bi_i hf
      refine g_eVI X 63 9 [.int v1] kV_X10_351 (c_X10_knows h32) dX10_soon_32 rfl rfl (sgN (by decide)) rfl (by decide) rfl rfl ⟨(Nat.le_of_ble_eq_true rfl), (Nat.le_of_ble_eq_true rfl)⟩ ⟨rfl, rfl⟩ ⟨(Nat.zero_le _), (Nat.zero_le _)⟩ (Nat.le_of_ble_eq_true rfl) ?_
      refine g_iload_n X 2 dX10_soon_35 rfl rfl ?_
      refine g_ishr X dX10_soon_36 ?_
      refine g_iconst X (v := 1) dX10_soon_37 (by decide) ?_
      refine g_iand X dX10_soon_38 ?_
      refine g_if_ne X (tgt := 54) dX10_soon_39 (by decide) (fun c39 => ?_) (fun c39 => ?_)
      · have hf := ie c39 hf
        refine g_pick [0, 3] (lv' := [(0, .ref (ad 63)), (3, .int v3)]) rfl ?_
        exact w_X10_soon_54 X hret v3 m32 hf
      · have hf := it c39 hf
        refine g_aload_n X 0 dX10_soon_42 rfl rfl ?_
        refine g_iconst X (v := -1) dX10_soon_43 (by decide) ?_
        obtain ⟨r44, m44, h44, hf⟩ := bi_i hf
        refine g_eVI X 63 9 [.int (-1 : Int32)] kV_X10_382 (c_X10_passes h44) dX10_soon_44 rfl rfl (sgN (by decide)) rfl (by decide) rfl rfl ⟨(Nat.le_of_ble_eq_true rfl), (Nat.le_of_ble_eq_true rfl)⟩ ⟨rfl, rfl⟩ ⟨(Nat.zero_le _), (Nat.zero_le _)⟩ (Nat.le_of_ble_eq_true rfl) ?_
        refine g_pop X dX10_soon_47 rfl ?_
        refine g_iinc X 3 (v := v3 + (1 : Int32)) (lv' := [(3, .int (v3 + (1 : Int32))), (0, .ref (ad 63)), (1, .int v1), (2, .int v2)]) dX10_soon_48 rfl rfl (by decide) rfl ?_
        refine g_goto X (tgt := 24) dX10_soon_51 (by decide) ?_
        refine g_pick [1, 2, 3, 0] (lv' := [(0, .ref (ad 63)), (1, .int v1), (2, .int v2), (3, .int (v3 + (1 : Int32)))]) rfl ?_
        exact ih v1 v2 (v3 + (1 : Int32)) m44 hf
set_option maxRecDepth 100000 in
set_option maxHeartbeats 4000000 in
theorem c_X10_soon {l : Launch} {G : GG} {b : Nat} {ad : Nat → Nat} {nt : Nat} {z : Nat → Nat} {p0 : Int32} {p1 : Int32} {m0 : Mem} {r9 : Int32} {m9 : Mem} (hf : X10_soon p0 p1 m0 = some (r9, m9)) : MtI l yX10_soon cX10_soon 4 (some .int) rmX10_soon G b (sg ad nt z) m0 [.ref (ad 63), .int p0, .int p1] (pEI r9 (sg ad nt z) m9) := by
  refine mtI_of (by decide) (Nat.le_of_ble_eq_true rfl) .int rfl (fun Γ hG X hnm hr => ?_)
  have hret : ∀ (pc : Nat) (lv : List (Nat × Value)), decode cX10_soon pc = .ok (.ireturn, 1) → narrow .int (.int r9) = .int r9 → Go Γ b (sg ad nt z) 0 0 pc lv [.int r9] m9 := fun pc lv d hn => hr pc lv _ _ _ d ⟨rfl, rfl, rfl⟩ hn
  show Go Γ b (sg ad nt z) 0 0 0 [(0, .ref (ad 63)), (1, .int p0), (2, .int p1)] [] m0
  refine g_aload_n X 0 dX10_soon_0 rfl rfl ?_
  refine g_iload_n X 1 dX10_soon_1 rfl rfl ?_
  obtain ⟨r2, m2, h2, hf⟩ := bi_i hf
  refine g_eVI X 63 9 [.int p0] kV_X10_84 (c_X10_isOne h2) dX10_soon_2 rfl rfl (sgN (by decide)) rfl (by decide) rfl rfl ⟨(Nat.le_of_ble_eq_true rfl), (Nat.le_of_ble_eq_true rfl)⟩ ⟨rfl, rfl⟩ ⟨(Nat.zero_le _), (Nat.zero_le _)⟩ (Nat.le_of_ble_eq_true rfl) ?_
  refine g_if_eq X (tgt := 15) dX10_soon_5 (by decide) (fun c5 => ?_) (fun c5 => ?_)
  · have hf := it c5 hf
    refine g_bipush X (v := -2) dX10_soon_15 (by decide) ?_
    obtain ⟨rfl, rfl⟩ := lf2 hf
    exact hret 17 _ dX10_soon_17 rfl
  · have hf := ie c5 hf
    refine g_iload_n X 2 dX10_soon_8 rfl rfl ?_
    obtain ⟨r9, m9, h9, hf⟩ := bi_i hf
    refine g_eSI X [.int p1] kS_X10_106 (c_X10_isPlace h9) dX10_soon_9 rfl rfl ⟨(Nat.le_of_ble_eq_true rfl), (Nat.le_of_ble_eq_true rfl)⟩ ⟨rfl, rfl⟩ ⟨(Nat.zero_le _), (Nat.zero_le _)⟩ (Nat.le_of_ble_eq_true rfl) ?_
    refine g_if_ne X (tgt := 18) dX10_soon_12 (by decide) (fun c12 => ?_) (fun c12 => ?_)
    · have hf := ie c12 hf
      refine g_aload_n X 0 dX10_soon_18 rfl rfl ?_
      obtain ⟨m19, h19, hf⟩ := bv_i hf
      refine g_eVV X 63 9 [] kV_X10_393 (c_X10_laysAside h19) dX10_soon_19 rfl rfl (sgN (by decide)) rfl (by decide) rfl rfl ⟨(Nat.le_of_ble_eq_true rfl), (Nat.le_of_ble_eq_true rfl)⟩ ⟨rfl, rfl⟩ ⟨(Nat.zero_le _), (Nat.zero_le _)⟩ (Nat.le_of_ble_eq_true rfl) ?_
      refine g_iconst X (v := 0) dX10_soon_22 (by decide) ?_
      refine g_istore_n X (lv' := [(3, .int (0 : Int32)), (0, .ref (ad 63)), (1, .int p0), (2, .int p1)]) dX10_soon_23 rfl (by decide) rfl ?_
      refine g_pick [1, 2, 3, 0] (lv' := [(0, .ref (ad 63)), (1, .int p0), (2, .int p1), (3, .int (0 : Int32))]) rfl ?_
      exact w_X10_soon_24 X hret 10000 p0 p1 (0 : Int32) m19 hf
    · have hf := it c12 hf
      refine g_bipush X (v := -2) dX10_soon_15 (by decide) ?_
      obtain ⟨rfl, rfl⟩ := lf2 hf
      exact hret 17 _ dX10_soon_17 rfl

def X10_knownBy_21 : Nat → Int32 → Int32 → Mem → Option (Int32 × Mem)
  | 0, _, _, _ => none
  | n + 1, v3, v4, m0 =>
    if v3 ≤ v4 then
      bi (X10_knownAll m0) fun r40 m40 =>
      bv (X10_laysBack m40) fun m46 =>
      some (r40, m46)
    else
      bi (X10_passes (-1 : Int32) m0) fun r29 m29 =>
      X10_knownBy_21 n v3 (v4 + (1 : Int32)) m29
def X10_knownBy (p0 : Int32) (p1 : Int32) (p2 : Int32) (m0 : Mem) : Option (Int32 × Mem) :=
  bv (X10_laysAside m0) fun m1 =>
  if inn (((5 : Int32) * p0) + (2 : Int32)) 30 then
  if inn (((5 : Int32) * p0) + (2 : Int32)) 30 then
  X10_knownBy_21 10000 p2 (0 : Int32) (pI m1 69 (((5 : Int32) * p0) + (2 : Int32)).toNatClampNeg ((m1.1 69 (((5 : Int32) * p0) + (2 : Int32)).toNatClampNeg) ||| p1))
  else none
  else none
abbrev rmX10_knownBy : Room := { frames := 47, cells := 0, slots := 0, locals := 1054 }
set_option maxRecDepth 100000 in
set_option maxHeartbeats 4000000 in
theorem w_X10_knownBy_21 {Γ : Ga} {b : Nat} {ad : Nat → Nat} {nt : Nat} {z : Nat → Nat} {r9 : Int32} {m9 : Mem} (X : Cx Γ b cX10_knownBy 5 RX10 (some .int) rmX10_knownBy) (hret : ∀ (pc : Nat) (lv : List (Nat × Value)), decode cX10_knownBy pc = .ok (.ireturn, 1) → narrow .int (.int r9) = .int r9 → Go Γ b (sg ad nt z) 0 0 pc lv [.int r9] m9) : ∀ (n : Nat) (v3 : Int32) (v4 : Int32) (m0 : Mem), X10_knownBy_21 n v3 v4 m0 = some (r9, m9) → Go Γ b (sg ad nt z) 0 0 21 [(0, .ref (ad 63)), (3, .int v3), (4, .int v4)] [] m0 := by
  intro n
  induction n with
  | zero =>
    intro v3 v4 m0 hf
    cases hf
  | succ n ih =>
    intro v3 v4 m0 hf
    refine g_iload X 2 dX10_knownBy_21 rfl ?_
    refine g_iload_n X 1 dX10_knownBy_23 rfl rfl ?_
    refine g_icmp_ge X (tgt := 39) dX10_knownBy_24 (by decide) (fun c24 => ?_) (fun c24 => ?_)
    · have hf := it c24 hf
      refine g_aload_n X 0 dX10_knownBy_39 rfl rfl ?_
      obtain ⟨r40, m40, h40, hf⟩ := bi_i hf
      refine g_eVI X 63 9 [] kV_X10_396 (c_X10_knownAll h40) dX10_knownBy_40 rfl rfl (sgN (by decide)) rfl (by decide) rfl rfl ⟨(Nat.le_of_ble_eq_true rfl), (Nat.le_of_ble_eq_true rfl)⟩ ⟨rfl, rfl⟩ ⟨(Nat.zero_le _), (Nat.zero_le _)⟩ (Nat.le_of_ble_eq_true rfl) ?_
      refine g_istore X (lv' := [(4, .int r40), (0, .ref (ad 63)), (3, .int v3)]) dX10_knownBy_43 (by decide) rfl ?_
      refine g_aload_n X 1 dX10_knownBy_45 rfl rfl ?_
      obtain ⟨m46, h46, hf⟩ := bv_i hf
      refine g_eVV X 63 9 [] kV_X10_399 (c_X10_laysBack h46) dX10_knownBy_46 rfl rfl (sgN (by decide)) rfl (by decide) rfl rfl ⟨(Nat.le_of_ble_eq_true rfl), (Nat.le_of_ble_eq_true rfl)⟩ ⟨rfl, rfl⟩ ⟨(Nat.zero_le _), (Nat.zero_le _)⟩ (Nat.le_of_ble_eq_true rfl) ?_
      refine g_iload X 0 dX10_knownBy_49 rfl ?_
      obtain ⟨rfl, rfl⟩ := lf2 hf
      exact hret 51 _ dX10_knownBy_51 rfl
    · have hf := ie c24 hf
      refine g_aload_n X 0 dX10_knownBy_27 rfl rfl ?_
      refine g_iconst X (v := -1) dX10_knownBy_28 (by decide) ?_
      obtain ⟨r29, m29, h29, hf⟩ := bi_i hf
      refine g_eVI X 63 9 [.int (-1 : Int32)] kV_X10_382 (c_X10_passes h29) dX10_knownBy_29 rfl rfl (sgN (by decide)) rfl (by decide) rfl rfl ⟨(Nat.le_of_ble_eq_true rfl), (Nat.le_of_ble_eq_true rfl)⟩ ⟨rfl, rfl⟩ ⟨(Nat.zero_le _), (Nat.zero_le _)⟩ (Nat.le_of_ble_eq_true rfl) ?_
      refine g_pop X dX10_knownBy_32 rfl ?_
      refine g_iinc X 2 (v := v4 + (1 : Int32)) (lv' := [(4, .int (v4 + (1 : Int32))), (0, .ref (ad 63)), (3, .int v3)]) dX10_knownBy_33 rfl rfl (by decide) rfl ?_
      refine g_goto X (tgt := 21) dX10_knownBy_36 (by decide) ?_
      refine g_pick [1, 2, 0] (lv' := [(0, .ref (ad 63)), (3, .int v3), (4, .int (v4 + (1 : Int32)))]) rfl ?_
      exact ih v3 (v4 + (1 : Int32)) m29 hf
set_option maxRecDepth 100000 in
set_option maxHeartbeats 4000000 in
theorem c_X10_knownBy {l : Launch} {G : GG} {b : Nat} {ad : Nat → Nat} {nt : Nat} {z : Nat → Nat} {p0 : Int32} {p1 : Int32} {p2 : Int32} {m0 : Mem} {r9 : Int32} {m9 : Mem} (hf : X10_knownBy p0 p1 p2 m0 = some (r9, m9)) : MtI l yX10_knownBy cX10_knownBy 5 (some .int) rmX10_knownBy G b (sg ad nt z) m0 [.ref (ad 63), .int p0, .int p1, .int p2] (pEI r9 (sg ad nt z) m9) := by
  refine mtI_of (by decide) (Nat.le_of_ble_eq_true rfl) .int rfl (fun Γ hG X hnm hr => ?_)
  have hret : ∀ (pc : Nat) (lv : List (Nat × Value)), decode cX10_knownBy pc = .ok (.ireturn, 1) → narrow .int (.int r9) = .int r9 → Go Γ b (sg ad nt z) 0 0 pc lv [.int r9] m9 := fun pc lv d hn => hr pc lv _ _ _ d ⟨rfl, rfl, rfl⟩ hn
  show Go Γ b (sg ad nt z) 0 0 0 [(0, .ref (ad 63)), (1, .int p0), (2, .int p1), (3, .int p2)] [] m0
  refine g_aload_n X 0 dX10_knownBy_0 rfl rfl ?_
  obtain ⟨m1, h1, hf⟩ := bv_i hf
  refine g_eVV X 63 9 [] kV_X10_393 (c_X10_laysAside h1) dX10_knownBy_1 rfl rfl (sgN (by decide)) rfl (by decide) rfl rfl ⟨(Nat.le_of_ble_eq_true rfl), (Nat.le_of_ble_eq_true rfl)⟩ ⟨rfl, rfl⟩ ⟨(Nat.zero_le _), (Nat.zero_le _)⟩ (Nat.le_of_ble_eq_true rfl) ?_
  refine g_aload_n X 0 dX10_knownBy_4 rfl rfl ?_
  refine g_getr X (x := ad 69) 63 9 10 dX10_knownBy_5 (sgN (by decide)) rfl (by decide) rfl iw_X10 (by decide) rfl q_fl_X10_29 rfl ?_
  refine g_iconst X (v := 5) dX10_knownBy_8 (by decide) ?_
  refine g_iload_n X 1 dX10_knownBy_9 rfl rfl ?_
  refine g_imul X dX10_knownBy_10 ?_
  refine g_iconst X (v := 2) dX10_knownBy_11 (by decide) ?_
  refine g_iadd X dX10_knownBy_12 ?_
  refine g_dup2 X dX10_knownBy_13 rfl rfl ?_
  obtain ⟨h14, hf⟩ := grd hf
  refine g_iald X 69 (n := 30) dX10_knownBy_14 (sgN (by decide)) rfl rfl h14 ?_
  refine g_iload_n X 2 dX10_knownBy_15 rfl rfl ?_
  refine g_ior X dX10_knownBy_16 ?_
  obtain ⟨h17, hf⟩ := grd hf
  refine g_iast X 69 (n := 30) dX10_knownBy_17 (sgN (by decide)) rfl rfl h17 ?_
  refine g_iconst X (v := 0) dX10_knownBy_18 (by decide) ?_
  refine g_istore X (lv' := [(4, .int (0 : Int32)), (0, .ref (ad 63)), (1, .int p0), (2, .int p1), (3, .int p2)]) dX10_knownBy_19 (by decide) rfl ?_
  refine g_pick [1, 4, 0] (lv' := [(0, .ref (ad 63)), (3, .int p2), (4, .int (0 : Int32))]) rfl ?_
  exact w_X10_knownBy_21 X hret 10000 p2 (0 : Int32) (pI m1 69 (((5 : Int32) * p0) + (2 : Int32)).toNatClampNeg ((m1.1 69 (((5 : Int32) * p0) + (2 : Int32)).toNatClampNeg) ||| p1)) hf

theorem kV_X10_404 : wcV RX10 404 RX10 yX10_knownBy cX10_knownBy 5 (some .int) 3 := ⟨q_ml_X10_404, q_im_yX10_knownBy, q_se_yX10_knownBy, q_in_X10, q_co_yX10_knownBy, by decide +kernel⟩

def X10_gift_88 (k36 : Int32 → Int32 → Int32 → Int32 → Int32 → Mem → Option (Int32 × Mem)) (v1 : Int32) (v2 : Int32) (v3 : Int32) (v4 : Int32) (v5 : Int32) (m0 : Mem) : Option (Int32 × Mem) :=
  k36 v1 v2 v3 v4 (v5 + (1 : Int32)) m0
def X10_gift_72 (k36 : Int32 → Int32 → Int32 → Int32 → Int32 → Mem → Option (Int32 × Mem)) (v1 : Int32) (v2 : Int32) (v3 : Int32) (v4 : Int32) (v5 : Int32) (s0 : Int32) (m0 : Mem) : Option (Int32 × Mem) :=
  if s0 ≤ v4 then
    X10_gift_88 k36 v1 v2 v3 v4 v5 m0
  else
    X10_gift_88 k36 v1 v2 v5 s0 v5 m0
def X10_gift_36 : Nat → Int32 → Int32 → Int32 → Int32 → Int32 → Mem → Option (Int32 × Mem)
  | 0, _, _, _, _, _, _ => none
  | n + 1, v1, v2, v3, v4, v5, m0 =>
    if (8 : Int32) ≤ v5 then
      if v2 = 0 then
        some (v3, m0)
      else
        some (v4, m0)
    else
      bi (X10_knows v1 m0) fun r45 m45 =>
      if ((r45 >>> (v5 &&& 31)) &&& (1 : Int32)) = (1 : Int32) then
        X10_gift_72 (X10_gift_36 n) v1 v2 v3 v4 v5 (-1 : Int32) m45
      else
        bi (X10_knownBy v1 ((1 : Int32) <<< (v5 &&& 31)) (8 : Int32) m45) fun r69 m69 =>
        X10_gift_72 (X10_gift_36 n) v1 v2 v3 v4 v5 r69 m69
def X10_gift (p0 : Int32) (p1 : Int32) (m0 : Mem) : Option (Int32 × Mem) :=
  bi (X10_isOne p0 m0) fun r2 m2 =>
  if r2 = 0 then
    some ((-2 : Int32), m2)
  else
    bi (X10_in p1.toInt64 (0 : Int64) (1 : Int64) m2) fun r12 m12 =>
    if r12 = 0 then
      some ((-2 : Int32), m12)
    else
      bi (X10_knownBy p0 (0 : Int32) (8 : Int32) m12) fun r28 m28 =>
      X10_gift_36 10000 p0 p1 (-1 : Int32) r28 (0 : Int32) m28
abbrev rmX10_gift : Room := { frames := 48, cells := 0, slots := 0, locals := 1078 }
set_option maxRecDepth 100000 in
set_option maxHeartbeats 4000000 in
theorem w_X10_gift_88 {Γ : Ga} {b : Nat} {ad : Nat → Nat} {nt : Nat} {z : Nat → Nat} {k36 : Int32 → Int32 → Int32 → Int32 → Int32 → Mem → Option (Int32 × Mem)} {r9 : Int32} {m9 : Mem} (X : Cx Γ b cX10_gift 7 RX10 (some .int) rmX10_gift) (hret : ∀ (pc : Nat) (lv : List (Nat × Value)), decode cX10_gift pc = .ok (.ireturn, 1) → narrow .int (.int r9) = .int r9 → Go Γ b (sg ad nt z) 0 0 pc lv [.int r9] m9) (hk36 : ∀ (v1 : Int32) (v2 : Int32) (v3 : Int32) (v4 : Int32) (v5 : Int32) (m0 : Mem), k36 v1 v2 v3 v4 v5 m0 = some (r9, m9) → Go Γ b (sg ad nt z) 0 0 36 [(0, .ref (ad 63)), (1, .int v1), (2, .int v2), (3, .int v3), (4, .int v4), (5, .int v5)] [] m0) (v1 : Int32) (v2 : Int32) (v3 : Int32) (v4 : Int32) (v5 : Int32) (m0 : Mem) (hf : X10_gift_88 k36 v1 v2 v3 v4 v5 m0 = some (r9, m9)) : Go Γ b (sg ad nt z) 0 0 88 [(0, .ref (ad 63)), (1, .int v1), (2, .int v2), (3, .int v3), (4, .int v4), (5, .int v5)] [] m0 := by
  refine g_iinc X 5 (v := v5 + (1 : Int32)) (lv' := [(5, .int (v5 + (1 : Int32))), (0, .ref (ad 63)), (1, .int v1), (2, .int v2), (3, .int v3), (4, .int v4)]) dX10_gift_88 rfl rfl (by decide) rfl ?_
  refine g_goto X (tgt := 36) dX10_gift_91 (by decide) ?_
  refine g_pick [1, 2, 3, 4, 5, 0] (lv' := [(0, .ref (ad 63)), (1, .int v1), (2, .int v2), (3, .int v3), (4, .int v4), (5, .int (v5 + (1 : Int32)))]) rfl ?_
  exact hk36 v1 v2 v3 v4 (v5 + (1 : Int32)) m0 hf
set_option maxRecDepth 100000 in
set_option maxHeartbeats 4000000 in
theorem w_X10_gift_72 {Γ : Ga} {b : Nat} {ad : Nat → Nat} {nt : Nat} {z : Nat → Nat} {k36 : Int32 → Int32 → Int32 → Int32 → Int32 → Mem → Option (Int32 × Mem)} {r9 : Int32} {m9 : Mem} (X : Cx Γ b cX10_gift 7 RX10 (some .int) rmX10_gift) (hret : ∀ (pc : Nat) (lv : List (Nat × Value)), decode cX10_gift pc = .ok (.ireturn, 1) → narrow .int (.int r9) = .int r9 → Go Γ b (sg ad nt z) 0 0 pc lv [.int r9] m9) (hk36 : ∀ (v1 : Int32) (v2 : Int32) (v3 : Int32) (v4 : Int32) (v5 : Int32) (m0 : Mem), k36 v1 v2 v3 v4 v5 m0 = some (r9, m9) → Go Γ b (sg ad nt z) 0 0 36 [(0, .ref (ad 63)), (1, .int v1), (2, .int v2), (3, .int v3), (4, .int v4), (5, .int v5)] [] m0) (v1 : Int32) (v2 : Int32) (v3 : Int32) (v4 : Int32) (v5 : Int32) (s0 : Int32) (m0 : Mem) (hf : X10_gift_72 k36 v1 v2 v3 v4 v5 s0 m0 = some (r9, m9)) : Go Γ b (sg ad nt z) 0 0 72 [(0, .ref (ad 63)), (1, .int v1), (2, .int v2), (3, .int v3), (4, .int v4), (5, .int v5)] [.int s0] m0 := by
  refine g_istore X (lv' := [(6, .int s0), (0, .ref (ad 63)), (1, .int v1), (2, .int v2), (3, .int v3), (4, .int v4), (5, .int v5)]) dX10_gift_72 (by decide) rfl ?_
  refine g_iload X 0 dX10_gift_74 rfl ?_
  refine g_iload X 5 dX10_gift_76 rfl ?_
  refine g_icmp_le X (tgt := 88) dX10_gift_78 (by decide) (fun c78 => ?_) (fun c78 => ?_)
  · have hf := it c78 hf
    refine g_pick [1, 2, 3, 4, 5, 6] (lv' := [(0, .ref (ad 63)), (1, .int v1), (2, .int v2), (3, .int v3), (4, .int v4), (5, .int v5)]) rfl ?_
    exact w_X10_gift_88 X hret hk36 v1 v2 v3 v4 v5 m0 hf
  · have hf := ie c78 hf
    refine g_iload X 6 dX10_gift_81 rfl ?_
    refine g_istore_n X (lv' := [(3, .int v5), (6, .int s0), (0, .ref (ad 63)), (1, .int v1), (2, .int v2), (4, .int v4), (5, .int v5)]) dX10_gift_83 rfl (by decide) rfl ?_
    refine g_iload X 1 dX10_gift_84 rfl ?_
    refine g_istore X (lv' := [(4, .int s0), (3, .int v5), (6, .int s0), (0, .ref (ad 63)), (1, .int v1), (2, .int v2), (5, .int v5)]) dX10_gift_86 (by decide) rfl ?_
    refine g_pick [3, 4, 5, 1, 0, 6] (lv' := [(0, .ref (ad 63)), (1, .int v1), (2, .int v2), (3, .int v5), (4, .int s0), (5, .int v5)]) rfl ?_
    exact w_X10_gift_88 X hret hk36 v1 v2 v5 s0 v5 m0 hf
set_option maxRecDepth 100000 in
set_option maxHeartbeats 4000000 in
theorem w_X10_gift_36 {Γ : Ga} {b : Nat} {ad : Nat → Nat} {nt : Nat} {z : Nat → Nat} {r9 : Int32} {m9 : Mem} (X : Cx Γ b cX10_gift 7 RX10 (some .int) rmX10_gift) (hret : ∀ (pc : Nat) (lv : List (Nat × Value)), decode cX10_gift pc = .ok (.ireturn, 1) → narrow .int (.int r9) = .int r9 → Go Γ b (sg ad nt z) 0 0 pc lv [.int r9] m9) : ∀ (n : Nat) (v1 : Int32) (v2 : Int32) (v3 : Int32) (v4 : Int32) (v5 : Int32) (m0 : Mem), X10_gift_36 n v1 v2 v3 v4 v5 m0 = some (r9, m9) → Go Γ b (sg ad nt z) 0 0 36 [(0, .ref (ad 63)), (1, .int v1), (2, .int v2), (3, .int v3), (4, .int v4), (5, .int v5)] [] m0 := by
  intro n
  induction n with
  | zero =>
    intro v1 v2 v3 v4 v5 m0 hf
    cases hf
  | succ n ih =>
    intro v1 v2 v3 v4 v5 m0 hf
    refine g_iload X 5 dX10_gift_36 rfl ?_
    refine g_bipush X (v := 8) dX10_gift_38 (by decide) ?_
    refine g_icmp_ge X (tgt := 94) dX10_gift_40 (by decide) (fun c40 => ?_) (fun c40 => ?_)
    · have hf := it c40 hf
      refine g_iload_n X 2 dX10_gift_94 rfl rfl ?_
      refine g_if_ne X (tgt := 102) dX10_gift_95 (by decide) (fun c95 => ?_) (fun c95 => ?_)
      · have hf := ie c95 hf
        refine g_iload X 4 dX10_gift_102 rfl ?_
        obtain ⟨rfl, rfl⟩ := lf2 hf
        exact hret 104 _ dX10_gift_104 rfl
      · have hf := it c95 hf
        refine g_iload_n X 3 dX10_gift_98 rfl rfl ?_
        refine g_goto X (tgt := 104) dX10_gift_99 (by decide) ?_
        obtain ⟨rfl, rfl⟩ := lf2 hf
        exact hret 104 _ dX10_gift_104 rfl
    · have hf := ie c40 hf
      refine g_aload_n X 0 dX10_gift_43 rfl rfl ?_
      refine g_iload_n X 1 dX10_gift_44 rfl rfl ?_
      obtain ⟨r45, m45, h45, hf⟩ := bi_i hf
      refine g_eVI X 63 9 [.int v1] kV_X10_351 (c_X10_knows h45) dX10_gift_45 rfl rfl (sgN (by decide)) rfl (by decide) rfl rfl ⟨(Nat.le_of_ble_eq_true rfl), (Nat.le_of_ble_eq_true rfl)⟩ ⟨rfl, rfl⟩ ⟨(Nat.zero_le _), (Nat.zero_le _)⟩ (Nat.le_of_ble_eq_true rfl) ?_
      refine g_iload X 5 dX10_gift_48 rfl ?_
      refine g_ishr X dX10_gift_50 ?_
      refine g_iconst X (v := 1) dX10_gift_51 (by decide) ?_
      refine g_iand X dX10_gift_52 ?_
      refine g_iconst X (v := 1) dX10_gift_53 (by decide) ?_
      refine g_icmp_ne X (tgt := 61) dX10_gift_54 (by decide) (fun c54 => ?_) (fun c54 => ?_)
      · have hf := ie c54 hf
        refine g_aload_n X 0 dX10_gift_61 rfl rfl ?_
        refine g_iload_n X 1 dX10_gift_62 rfl rfl ?_
        refine g_iconst X (v := 1) dX10_gift_63 (by decide) ?_
        refine g_iload X 5 dX10_gift_64 rfl ?_
        refine g_ishl X dX10_gift_66 ?_
        refine g_bipush X (v := 8) dX10_gift_67 (by decide) ?_
        obtain ⟨r69, m69, h69, hf⟩ := bi_i hf
        refine g_eVI X 63 9 [.int v1, .int ((1 : Int32) <<< (v5 &&& 31)), .int (8 : Int32)] kV_X10_404 (c_X10_knownBy h69) dX10_gift_69 rfl rfl (sgN (by decide)) rfl (by decide) rfl rfl ⟨(Nat.le_of_ble_eq_true rfl), (Nat.le_of_ble_eq_true rfl)⟩ ⟨rfl, rfl⟩ ⟨(Nat.zero_le _), (Nat.zero_le _)⟩ (Nat.le_of_ble_eq_true rfl) ?_
        exact w_X10_gift_72 X hret ih v1 v2 v3 v4 v5 r69 m69 hf
      · have hf := it c54 hf
        refine g_iconst X (v := -1) dX10_gift_57 (by decide) ?_
        refine g_goto X (tgt := 72) dX10_gift_58 (by decide) ?_
        exact w_X10_gift_72 X hret ih v1 v2 v3 v4 v5 (-1 : Int32) m45 hf
set_option maxRecDepth 100000 in
set_option maxHeartbeats 4000000 in
theorem c_X10_gift {l : Launch} {G : GG} {b : Nat} {ad : Nat → Nat} {nt : Nat} {z : Nat → Nat} {p0 : Int32} {p1 : Int32} {m0 : Mem} {r9 : Int32} {m9 : Mem} (hf : X10_gift p0 p1 m0 = some (r9, m9)) : MtI l yX10_gift cX10_gift 7 (some .int) rmX10_gift G b (sg ad nt z) m0 [.ref (ad 63), .int p0, .int p1] (pEI r9 (sg ad nt z) m9) := by
  refine mtI_of (by decide) (Nat.le_of_ble_eq_true rfl) .int rfl (fun Γ hG X hnm hr => ?_)
  have hret : ∀ (pc : Nat) (lv : List (Nat × Value)), decode cX10_gift pc = .ok (.ireturn, 1) → narrow .int (.int r9) = .int r9 → Go Γ b (sg ad nt z) 0 0 pc lv [.int r9] m9 := fun pc lv d hn => hr pc lv _ _ _ d ⟨rfl, rfl, rfl⟩ hn
  show Go Γ b (sg ad nt z) 0 0 0 [(0, .ref (ad 63)), (1, .int p0), (2, .int p1)] [] m0
  refine g_aload_n X 0 dX10_gift_0 rfl rfl ?_
  refine g_iload_n X 1 dX10_gift_1 rfl rfl ?_
  obtain ⟨r2, m2, h2, hf⟩ := bi_i hf
  refine g_eVI X 63 9 [.int p0] kV_X10_84 (c_X10_isOne h2) dX10_gift_2 rfl rfl (sgN (by decide)) rfl (by decide) rfl rfl ⟨(Nat.le_of_ble_eq_true rfl), (Nat.le_of_ble_eq_true rfl)⟩ ⟨rfl, rfl⟩ ⟨(Nat.zero_le _), (Nat.zero_le _)⟩ (Nat.le_of_ble_eq_true rfl) ?_
  refine g_if_eq X (tgt := 18) dX10_gift_5 (by decide) (fun c5 => ?_) (fun c5 => ?_)
  · have hf := it c5 hf
    refine g_bipush X (v := -2) dX10_gift_18 (by decide) ?_
    obtain ⟨rfl, rfl⟩ := lf2 hf
    exact hret 20 _ dX10_gift_20 rfl
  · have hf := ie c5 hf
    refine g_iload_n X 2 dX10_gift_8 rfl rfl ?_
    refine g_i2l X dX10_gift_9 ?_
    refine g_lconst X (v := 0) dX10_gift_10 (by decide) ?_
    refine g_lconst X (v := 1) dX10_gift_11 (by decide) ?_
    obtain ⟨r12, m12, h12, hf⟩ := bi_i hf
    refine g_eSI X [.long p1.toInt64, .long (0 : Int64), .long (1 : Int64)] kS_X10_76 (c_X10_in h12) dX10_gift_12 rfl rfl ⟨(Nat.le_of_ble_eq_true rfl), (Nat.le_of_ble_eq_true rfl)⟩ ⟨rfl, rfl⟩ ⟨(Nat.zero_le _), (Nat.zero_le _)⟩ (Nat.le_of_ble_eq_true rfl) ?_
    refine g_if_ne X (tgt := 21) dX10_gift_15 (by decide) (fun c15 => ?_) (fun c15 => ?_)
    · have hf := ie c15 hf
      refine g_iconst X (v := -1) dX10_gift_21 (by decide) ?_
      refine g_istore_n X (lv' := [(3, .int (-1 : Int32)), (0, .ref (ad 63)), (1, .int p0), (2, .int p1)]) dX10_gift_22 rfl (by decide) rfl ?_
      refine g_aload_n X 1 dX10_gift_23 rfl rfl ?_
      refine g_iload_n X 2 dX10_gift_24 rfl rfl ?_
      refine g_iconst X (v := 0) dX10_gift_25 (by decide) ?_
      refine g_bipush X (v := 8) dX10_gift_26 (by decide) ?_
      obtain ⟨r28, m28, h28, hf⟩ := bi_i hf
      refine g_eVI X 63 9 [.int p0, .int (0 : Int32), .int (8 : Int32)] kV_X10_404 (c_X10_knownBy h28) dX10_gift_28 rfl rfl (sgN (by decide)) rfl (by decide) rfl rfl ⟨(Nat.le_of_ble_eq_true rfl), (Nat.le_of_ble_eq_true rfl)⟩ ⟨rfl, rfl⟩ ⟨(Nat.zero_le _), (Nat.zero_le _)⟩ (Nat.le_of_ble_eq_true rfl) ?_
      refine g_istore X (lv' := [(4, .int r28), (3, .int (-1 : Int32)), (0, .ref (ad 63)), (1, .int p0), (2, .int p1)]) dX10_gift_31 (by decide) rfl ?_
      refine g_iconst X (v := 0) dX10_gift_33 (by decide) ?_
      refine g_istore X (lv' := [(5, .int (0 : Int32)), (4, .int r28), (3, .int (-1 : Int32)), (0, .ref (ad 63)), (1, .int p0), (2, .int p1)]) dX10_gift_34 (by decide) rfl ?_
      refine g_pick [3, 4, 5, 2, 1, 0] (lv' := [(0, .ref (ad 63)), (1, .int p0), (2, .int p1), (3, .int (-1 : Int32)), (4, .int r28), (5, .int (0 : Int32))]) rfl ?_
      exact w_X10_gift_36 X hret 10000 p0 p1 (-1 : Int32) r28 (0 : Int32) m28 hf
    · have hf := it c15 hf
      refine g_bipush X (v := -2) dX10_gift_18 (by decide) ?_
      obtain ⟨rfl, rfl⟩ := lf2 hf
      exact hret 20 _ dX10_gift_20 rfl

def X10_missed_112 (k20 : Int32 → Int32 → Int32 → Int32 → Mem → Option (Int32 × Mem)) (v1 : Int32) (v2 : Int32) (v3 : Int32) (v4 : Int32) (m0 : Mem) : Option (Int32 × Mem) :=
  k20 v1 v2 v3 (v4 + (1 : Int32)) m0
def X10_missed_106 (k20 : Int32 → Int32 → Int32 → Int32 → Mem → Option (Int32 × Mem)) (v1 : Int32) (v4 : Int32) (v6 : Int32) (m0 : Mem) : Option (Int32 × Mem) :=
  X10_missed_112 k20 v1 v4 v6 v4 m0
def X10_missed_52 (k20 : Int32 → Int32 → Int32 → Int32 → Mem → Option (Int32 × Mem)) : Nat → Int32 → Int32 → Int32 → Int32 → Int32 → Int32 → Mem → Option (Int32 × Mem)
  | 0, _, _, _, _, _, _, _ => none
  | n + 1, v1, v2, v3, v4, v5, v6, m0 =>
    if (8 : Int32) ≤ v6 then
      bi (X10_knownAll m0) fun r73 m73 =>
      bi (X10_knows v4 m73) fun r79 m79 =>
      bi (X10_bitsOf r79 m79) fun r82 m82 =>
      bv (X10_laysBack m82) fun m92 =>
      if v2 = (-1 : Int32) then
        X10_missed_106 k20 v1 v4 ((r73 - r82) - v5) m92
      else
        if v3 ≤ ((r73 - r82) - v5) then
          X10_missed_112 k20 v1 v2 v3 v4 m92
        else
          X10_missed_106 k20 v1 v4 ((r73 - r82) - v5) m92
    else
      bi (X10_passes v4 m0) fun r62 m62 =>
      X10_missed_52 k20 n v1 v2 v3 v4 v5 (v6 + (1 : Int32)) m62
def X10_missed_20 : Nat → Int32 → Int32 → Int32 → Int32 → Mem → Option (Int32 × Mem)
  | 0, _, _, _, _, _ => none
  | n + 1, v1, v2, v3, v4, m0 =>
    if (m0.1 63 11) ≤ v4 then
      if v1 = 0 then
        some (v2, m0)
      else
        some (v3, m0)
    else
      bi (X10_knownAll m0) fun r30 m30 =>
      bi (X10_knows v4 m30) fun r36 m36 =>
      bi (X10_bitsOf r36 m36) fun r39 m39 =>
      bv (X10_laysAside m39) fun m46 =>
      X10_missed_52 (X10_missed_20 n) 10000 v1 v2 v3 v4 (r30 - r39) (0 : Int32) m46
def X10_missed (p0 : Int32) (m0 : Mem) : Option (Int32 × Mem) :=
  bi (X10_in p0.toInt64 (0 : Int64) (1 : Int64) m0) fun r4 m4 =>
  if r4 = 0 then
    some ((-2 : Int32), m4)
  else
    X10_missed_20 10000 p0 (-1 : Int32) (-1 : Int32) (0 : Int32) m4
abbrev rmX10_missed : Room := { frames := 47, cells := 0, slots := 0, locals := 1054 }
set_option maxRecDepth 100000 in
set_option maxHeartbeats 4000000 in
theorem w_X10_missed_112 {Γ : Ga} {b : Nat} {ad : Nat → Nat} {nt : Nat} {z : Nat → Nat} {k20 : Int32 → Int32 → Int32 → Int32 → Mem → Option (Int32 × Mem)} {r9 : Int32} {m9 : Mem} (X : Cx Γ b cX10_missed 7 RX10 (some .int) rmX10_missed) (hret : ∀ (pc : Nat) (lv : List (Nat × Value)), decode cX10_missed pc = .ok (.ireturn, 1) → narrow .int (.int r9) = .int r9 → Go Γ b (sg ad nt z) 0 0 pc lv [.int r9] m9) (hk20 : ∀ (v1 : Int32) (v2 : Int32) (v3 : Int32) (v4 : Int32) (m0 : Mem), k20 v1 v2 v3 v4 m0 = some (r9, m9) → Go Γ b (sg ad nt z) 0 0 20 [(0, .ref (ad 63)), (1, .int v1), (2, .int v2), (3, .int v3), (4, .int v4)] [] m0) (v1 : Int32) (v2 : Int32) (v3 : Int32) (v4 : Int32) (m0 : Mem) (hf : X10_missed_112 k20 v1 v2 v3 v4 m0 = some (r9, m9)) : Go Γ b (sg ad nt z) 0 0 112 [(0, .ref (ad 63)), (1, .int v1), (2, .int v2), (3, .int v3), (4, .int v4)] [] m0 := by
  refine g_iinc X 4 (v := v4 + (1 : Int32)) (lv' := [(4, .int (v4 + (1 : Int32))), (0, .ref (ad 63)), (1, .int v1), (2, .int v2), (3, .int v3)]) dX10_missed_112 rfl rfl (by decide) rfl ?_
  refine g_goto X (tgt := 20) dX10_missed_115 (by decide) ?_
  refine g_pick [1, 2, 3, 4, 0] (lv' := [(0, .ref (ad 63)), (1, .int v1), (2, .int v2), (3, .int v3), (4, .int (v4 + (1 : Int32)))]) rfl ?_
  exact hk20 v1 v2 v3 (v4 + (1 : Int32)) m0 hf
set_option maxRecDepth 100000 in
set_option maxHeartbeats 4000000 in
theorem w_X10_missed_106 {Γ : Ga} {b : Nat} {ad : Nat → Nat} {nt : Nat} {z : Nat → Nat} {k20 : Int32 → Int32 → Int32 → Int32 → Mem → Option (Int32 × Mem)} {r9 : Int32} {m9 : Mem} (X : Cx Γ b cX10_missed 7 RX10 (some .int) rmX10_missed) (hret : ∀ (pc : Nat) (lv : List (Nat × Value)), decode cX10_missed pc = .ok (.ireturn, 1) → narrow .int (.int r9) = .int r9 → Go Γ b (sg ad nt z) 0 0 pc lv [.int r9] m9) (hk20 : ∀ (v1 : Int32) (v2 : Int32) (v3 : Int32) (v4 : Int32) (m0 : Mem), k20 v1 v2 v3 v4 m0 = some (r9, m9) → Go Γ b (sg ad nt z) 0 0 20 [(0, .ref (ad 63)), (1, .int v1), (2, .int v2), (3, .int v3), (4, .int v4)] [] m0) (v1 : Int32) (v4 : Int32) (v6 : Int32) (m0 : Mem) (hf : X10_missed_106 k20 v1 v4 v6 m0 = some (r9, m9)) : Go Γ b (sg ad nt z) 0 0 106 [(0, .ref (ad 63)), (1, .int v1), (4, .int v4), (6, .int v6)] [] m0 := by
  refine g_iload X 2 dX10_missed_106 rfl ?_
  refine g_istore_n X (lv' := [(2, .int v4), (0, .ref (ad 63)), (1, .int v1), (4, .int v4), (6, .int v6)]) dX10_missed_108 rfl (by decide) rfl ?_
  refine g_iload X 4 dX10_missed_109 rfl ?_
  refine g_istore_n X (lv' := [(3, .int v6), (2, .int v4), (0, .ref (ad 63)), (1, .int v1), (4, .int v4), (6, .int v6)]) dX10_missed_111 rfl (by decide) rfl ?_
  refine g_pick [2, 3, 1, 0, 4] (lv' := [(0, .ref (ad 63)), (1, .int v1), (2, .int v4), (3, .int v6), (4, .int v4)]) rfl ?_
  exact w_X10_missed_112 X hret hk20 v1 v4 v6 v4 m0 hf
set_option maxRecDepth 100000 in
set_option maxHeartbeats 4000000 in
theorem w_X10_missed_52 {Γ : Ga} {b : Nat} {ad : Nat → Nat} {nt : Nat} {z : Nat → Nat} {k20 : Int32 → Int32 → Int32 → Int32 → Mem → Option (Int32 × Mem)} {r9 : Int32} {m9 : Mem} (X : Cx Γ b cX10_missed 7 RX10 (some .int) rmX10_missed) (hret : ∀ (pc : Nat) (lv : List (Nat × Value)), decode cX10_missed pc = .ok (.ireturn, 1) → narrow .int (.int r9) = .int r9 → Go Γ b (sg ad nt z) 0 0 pc lv [.int r9] m9) (hk20 : ∀ (v1 : Int32) (v2 : Int32) (v3 : Int32) (v4 : Int32) (m0 : Mem), k20 v1 v2 v3 v4 m0 = some (r9, m9) → Go Γ b (sg ad nt z) 0 0 20 [(0, .ref (ad 63)), (1, .int v1), (2, .int v2), (3, .int v3), (4, .int v4)] [] m0) : ∀ (n : Nat) (v1 : Int32) (v2 : Int32) (v3 : Int32) (v4 : Int32) (v5 : Int32) (v6 : Int32) (m0 : Mem), X10_missed_52 k20 n v1 v2 v3 v4 v5 v6 m0 = some (r9, m9) → Go Γ b (sg ad nt z) 0 0 52 [(0, .ref (ad 63)), (1, .int v1), (2, .int v2), (3, .int v3), (4, .int v4), (5, .int v5), (6, .int v6)] [] m0 := by
  intro n
  induction n with
  | zero =>
    intro v1 v2 v3 v4 v5 v6 m0 hf
    cases hf
  | succ n ih =>
    intro v1 v2 v3 v4 v5 v6 m0 hf
    refine g_iload X 6 dX10_missed_52 rfl ?_
    refine g_bipush X (v := 8) dX10_missed_54 (by decide) ?_
    refine g_icmp_ge X (tgt := 72) dX10_missed_56 (by decide) (fun c56 => ?_) (fun c56 => ?_)
    · have hf := it c56 hf
      refine g_aload_n X 0 dX10_missed_72 rfl rfl ?_
      obtain ⟨r73, m73, h73, hf⟩ := bi_i hf
      refine g_eVI X 63 9 [] kV_X10_396 (c_X10_knownAll h73) dX10_missed_73 rfl rfl (sgN (by decide)) rfl (by decide) rfl rfl ⟨(Nat.le_of_ble_eq_true rfl), (Nat.le_of_ble_eq_true rfl)⟩ ⟨rfl, rfl⟩ ⟨(Nat.zero_le _), (Nat.zero_le _)⟩ (Nat.le_of_ble_eq_true rfl) ?_
      refine g_aload_n X 0 dX10_missed_76 rfl rfl ?_
      refine g_iload X 4 dX10_missed_77 rfl ?_
      obtain ⟨r79, m79, h79, hf⟩ := bi_i hf
      refine g_eVI X 63 9 [.int v4] kV_X10_351 (c_X10_knows h79) dX10_missed_79 rfl rfl (sgN (by decide)) rfl (by decide) rfl rfl ⟨(Nat.le_of_ble_eq_true rfl), (Nat.le_of_ble_eq_true rfl)⟩ ⟨rfl, rfl⟩ ⟨(Nat.zero_le _), (Nat.zero_le _)⟩ (Nat.le_of_ble_eq_true rfl) ?_
      obtain ⟨r82, m82, h82, hf⟩ := bi_i hf
      refine g_eSI X [.int r79] kS_X10_354 (c_X10_bitsOf h82) dX10_missed_82 rfl rfl ⟨(Nat.le_of_ble_eq_true rfl), (Nat.le_of_ble_eq_true rfl)⟩ ⟨rfl, rfl⟩ ⟨(Nat.zero_le _), (Nat.zero_le _)⟩ (Nat.le_of_ble_eq_true rfl) ?_
      refine g_isub X dX10_missed_85 ?_
      refine g_iload X 5 dX10_missed_86 rfl ?_
      refine g_isub X dX10_missed_88 ?_
      refine g_istore X (lv' := [(6, .int ((r73 - r82) - v5)), (0, .ref (ad 63)), (1, .int v1), (2, .int v2), (3, .int v3), (4, .int v4), (5, .int v5)]) dX10_missed_89 (by decide) rfl ?_
      refine g_aload_n X 1 dX10_missed_91 rfl rfl ?_
      obtain ⟨m92, h92, hf⟩ := bv_i hf
      refine g_eVV X 63 9 [] kV_X10_399 (c_X10_laysBack h92) dX10_missed_92 rfl rfl (sgN (by decide)) rfl (by decide) rfl rfl ⟨(Nat.le_of_ble_eq_true rfl), (Nat.le_of_ble_eq_true rfl)⟩ ⟨rfl, rfl⟩ ⟨(Nat.zero_le _), (Nat.zero_le _)⟩ (Nat.le_of_ble_eq_true rfl) ?_
      refine g_iload_n X 3 dX10_missed_95 rfl rfl ?_
      refine g_iconst X (v := -1) dX10_missed_96 (by decide) ?_
      refine g_icmp_eq X (tgt := 106) dX10_missed_97 (by decide) (fun c97 => ?_) (fun c97 => ?_)
      · have hf := it c97 hf
        refine g_pick [1, 2, 5, 0] (lv' := [(0, .ref (ad 63)), (1, .int v1), (4, .int v4), (6, .int ((r73 - r82) - v5))]) rfl ?_
        exact w_X10_missed_106 X hret hk20 v1 v4 ((r73 - r82) - v5) m92 hf
      · have hf := ie c97 hf
        refine g_iload X 0 dX10_missed_100 rfl ?_
        refine g_iload_n X 4 dX10_missed_102 rfl rfl ?_
        refine g_icmp_ge X (tgt := 112) dX10_missed_103 (by decide) (fun c103 => ?_) (fun c103 => ?_)
        · have hf := it c103 hf
          refine g_pick [1, 2, 3, 4, 5] (lv' := [(0, .ref (ad 63)), (1, .int v1), (2, .int v2), (3, .int v3), (4, .int v4)]) rfl ?_
          exact w_X10_missed_112 X hret hk20 v1 v2 v3 v4 m92 hf
        · have hf := ie c103 hf
          refine g_pick [1, 2, 5, 0] (lv' := [(0, .ref (ad 63)), (1, .int v1), (4, .int v4), (6, .int ((r73 - r82) - v5))]) rfl ?_
          exact w_X10_missed_106 X hret hk20 v1 v4 ((r73 - r82) - v5) m92 hf
    · have hf := ie c56 hf
      refine g_aload_n X 0 dX10_missed_59 rfl rfl ?_
      refine g_iload X 4 dX10_missed_60 rfl ?_
      obtain ⟨r62, m62, h62, hf⟩ := bi_i hf
      refine g_eVI X 63 9 [.int v4] kV_X10_382 (c_X10_passes h62) dX10_missed_62 rfl rfl (sgN (by decide)) rfl (by decide) rfl rfl ⟨(Nat.le_of_ble_eq_true rfl), (Nat.le_of_ble_eq_true rfl)⟩ ⟨rfl, rfl⟩ ⟨(Nat.zero_le _), (Nat.zero_le _)⟩ (Nat.le_of_ble_eq_true rfl) ?_
      refine g_pop X dX10_missed_65 rfl ?_
      refine g_iinc X 6 (v := v6 + (1 : Int32)) (lv' := [(6, .int (v6 + (1 : Int32))), (0, .ref (ad 63)), (1, .int v1), (2, .int v2), (3, .int v3), (4, .int v4), (5, .int v5)]) dX10_missed_66 rfl rfl (by decide) rfl ?_
      refine g_goto X (tgt := 52) dX10_missed_69 (by decide) ?_
      refine g_pick [1, 2, 3, 4, 5, 6, 0] (lv' := [(0, .ref (ad 63)), (1, .int v1), (2, .int v2), (3, .int v3), (4, .int v4), (5, .int v5), (6, .int (v6 + (1 : Int32)))]) rfl ?_
      exact ih v1 v2 v3 v4 v5 (v6 + (1 : Int32)) m62 hf
set_option maxRecDepth 100000 in
set_option maxHeartbeats 4000000 in
theorem w_X10_missed_20 {Γ : Ga} {b : Nat} {ad : Nat → Nat} {nt : Nat} {z : Nat → Nat} {r9 : Int32} {m9 : Mem} (X : Cx Γ b cX10_missed 7 RX10 (some .int) rmX10_missed) (hret : ∀ (pc : Nat) (lv : List (Nat × Value)), decode cX10_missed pc = .ok (.ireturn, 1) → narrow .int (.int r9) = .int r9 → Go Γ b (sg ad nt z) 0 0 pc lv [.int r9] m9) : ∀ (n : Nat) (v1 : Int32) (v2 : Int32) (v3 : Int32) (v4 : Int32) (m0 : Mem), X10_missed_20 n v1 v2 v3 v4 m0 = some (r9, m9) → Go Γ b (sg ad nt z) 0 0 20 [(0, .ref (ad 63)), (1, .int v1), (2, .int v2), (3, .int v3), (4, .int v4)] [] m0 := by
  intro n
  induction n with
  | zero =>
    intro v1 v2 v3 v4 m0 hf
    cases hf
  | succ n ih =>
    intro v1 v2 v3 v4 m0 hf
    refine g_iload X 4 dX10_missed_20 rfl ?_
    refine g_aload_n X 0 dX10_missed_22 rfl rfl ?_
    refine g_getI X 63 9 11 dX10_missed_23 (sgN (by decide)) rfl (by decide) rfl iw_X10 (by decide) rfl q_fl_X10_73 ?_
    refine g_icmp_ge X (tgt := 118) dX10_missed_26 (by decide) (fun c26 => ?_) (fun c26 => ?_)
    · have hf := it c26 hf
      refine g_iload_n X 1 dX10_missed_118 rfl rfl ?_
      refine g_if_ne X (tgt := 126) dX10_missed_119 (by decide) (fun c119 => ?_) (fun c119 => ?_)
      · have hf := ie c119 hf
        refine g_iload_n X 3 dX10_missed_126 rfl rfl ?_
        obtain ⟨rfl, rfl⟩ := lf2 hf
        exact hret 127 _ dX10_missed_127 rfl
      · have hf := it c119 hf
        refine g_iload_n X 2 dX10_missed_122 rfl rfl ?_
        refine g_goto X (tgt := 127) dX10_missed_123 (by decide) ?_
        obtain ⟨rfl, rfl⟩ := lf2 hf
        exact hret 127 _ dX10_missed_127 rfl
    · have hf := ie c26 hf
      refine g_aload_n X 0 dX10_missed_29 rfl rfl ?_
      obtain ⟨r30, m30, h30, hf⟩ := bi_i hf
      refine g_eVI X 63 9 [] kV_X10_396 (c_X10_knownAll h30) dX10_missed_30 rfl rfl (sgN (by decide)) rfl (by decide) rfl rfl ⟨(Nat.le_of_ble_eq_true rfl), (Nat.le_of_ble_eq_true rfl)⟩ ⟨rfl, rfl⟩ ⟨(Nat.zero_le _), (Nat.zero_le _)⟩ (Nat.le_of_ble_eq_true rfl) ?_
      refine g_aload_n X 0 dX10_missed_33 rfl rfl ?_
      refine g_iload X 4 dX10_missed_34 rfl ?_
      obtain ⟨r36, m36, h36, hf⟩ := bi_i hf
      refine g_eVI X 63 9 [.int v4] kV_X10_351 (c_X10_knows h36) dX10_missed_36 rfl rfl (sgN (by decide)) rfl (by decide) rfl rfl ⟨(Nat.le_of_ble_eq_true rfl), (Nat.le_of_ble_eq_true rfl)⟩ ⟨rfl, rfl⟩ ⟨(Nat.zero_le _), (Nat.zero_le _)⟩ (Nat.le_of_ble_eq_true rfl) ?_
      obtain ⟨r39, m39, h39, hf⟩ := bi_i hf
      refine g_eSI X [.int r36] kS_X10_354 (c_X10_bitsOf h39) dX10_missed_39 rfl rfl ⟨(Nat.le_of_ble_eq_true rfl), (Nat.le_of_ble_eq_true rfl)⟩ ⟨rfl, rfl⟩ ⟨(Nat.zero_le _), (Nat.zero_le _)⟩ (Nat.le_of_ble_eq_true rfl) ?_
      refine g_isub X dX10_missed_42 ?_
      refine g_istore X (lv' := [(5, .int (r30 - r39)), (0, .ref (ad 63)), (1, .int v1), (2, .int v2), (3, .int v3), (4, .int v4)]) dX10_missed_43 (by decide) rfl ?_
      refine g_aload_n X 1 dX10_missed_45 rfl rfl ?_
      obtain ⟨m46, h46, hf⟩ := bv_i hf
      refine g_eVV X 63 9 [] kV_X10_393 (c_X10_laysAside h46) dX10_missed_46 rfl rfl (sgN (by decide)) rfl (by decide) rfl rfl ⟨(Nat.le_of_ble_eq_true rfl), (Nat.le_of_ble_eq_true rfl)⟩ ⟨rfl, rfl⟩ ⟨(Nat.zero_le _), (Nat.zero_le _)⟩ (Nat.le_of_ble_eq_true rfl) ?_
      refine g_iconst X (v := 0) dX10_missed_49 (by decide) ?_
      refine g_istore X (lv' := [(6, .int (0 : Int32)), (5, .int (r30 - r39)), (0, .ref (ad 63)), (1, .int v1), (2, .int v2), (3, .int v3), (4, .int v4)]) dX10_missed_50 (by decide) rfl ?_
      refine g_pick [2, 3, 4, 5, 6, 1, 0] (lv' := [(0, .ref (ad 63)), (1, .int v1), (2, .int v2), (3, .int v3), (4, .int v4), (5, .int (r30 - r39)), (6, .int (0 : Int32))]) rfl ?_
      exact w_X10_missed_52 X hret ih 10000 v1 v2 v3 v4 (r30 - r39) (0 : Int32) m46 hf
set_option maxRecDepth 100000 in
set_option maxHeartbeats 4000000 in
theorem c_X10_missed {l : Launch} {G : GG} {b : Nat} {ad : Nat → Nat} {nt : Nat} {z : Nat → Nat} {p0 : Int32} {m0 : Mem} {r9 : Int32} {m9 : Mem} (hf : X10_missed p0 m0 = some (r9, m9)) : MtI l yX10_missed cX10_missed 7 (some .int) rmX10_missed G b (sg ad nt z) m0 [.ref (ad 63), .int p0] (pEI r9 (sg ad nt z) m9) := by
  refine mtI_of (by decide) (Nat.le_of_ble_eq_true rfl) .int rfl (fun Γ hG X hnm hr => ?_)
  have hret : ∀ (pc : Nat) (lv : List (Nat × Value)), decode cX10_missed pc = .ok (.ireturn, 1) → narrow .int (.int r9) = .int r9 → Go Γ b (sg ad nt z) 0 0 pc lv [.int r9] m9 := fun pc lv d hn => hr pc lv _ _ _ d ⟨rfl, rfl, rfl⟩ hn
  show Go Γ b (sg ad nt z) 0 0 0 [(0, .ref (ad 63)), (1, .int p0)] [] m0
  refine g_iload_n X 1 dX10_missed_0 rfl rfl ?_
  refine g_i2l X dX10_missed_1 ?_
  refine g_lconst X (v := 0) dX10_missed_2 (by decide) ?_
  refine g_lconst X (v := 1) dX10_missed_3 (by decide) ?_
  obtain ⟨r4, m4, h4, hf⟩ := bi_i hf
  refine g_eSI X [.long p0.toInt64, .long (0 : Int64), .long (1 : Int64)] kS_X10_76 (c_X10_in h4) dX10_missed_4 rfl rfl ⟨(Nat.le_of_ble_eq_true rfl), (Nat.le_of_ble_eq_true rfl)⟩ ⟨rfl, rfl⟩ ⟨(Nat.zero_le _), (Nat.zero_le _)⟩ (Nat.le_of_ble_eq_true rfl) ?_
  refine g_if_ne X (tgt := 13) dX10_missed_7 (by decide) (fun c7 => ?_) (fun c7 => ?_)
  · have hf := ie c7 hf
    refine g_iconst X (v := -1) dX10_missed_13 (by decide) ?_
    refine g_istore_n X (lv' := [(2, .int (-1 : Int32)), (0, .ref (ad 63)), (1, .int p0)]) dX10_missed_14 rfl (by decide) rfl ?_
    refine g_iconst X (v := -1) dX10_missed_15 (by decide) ?_
    refine g_istore_n X (lv' := [(3, .int (-1 : Int32)), (2, .int (-1 : Int32)), (0, .ref (ad 63)), (1, .int p0)]) dX10_missed_16 rfl (by decide) rfl ?_
    refine g_iconst X (v := 0) dX10_missed_17 (by decide) ?_
    refine g_istore X (lv' := [(4, .int (0 : Int32)), (3, .int (-1 : Int32)), (2, .int (-1 : Int32)), (0, .ref (ad 63)), (1, .int p0)]) dX10_missed_18 (by decide) rfl ?_
    refine g_pick [3, 4, 2, 1, 0] (lv' := [(0, .ref (ad 63)), (1, .int p0), (2, .int (-1 : Int32)), (3, .int (-1 : Int32)), (4, .int (0 : Int32))]) rfl ?_
    exact w_X10_missed_20 X hret 10000 p0 (-1 : Int32) (-1 : Int32) (0 : Int32) m4 hf
  · have hf := it c7 hf
    refine g_bipush X (v := -2) dX10_missed_10 (by decide) ?_
    obtain ⟨rfl, rfl⟩ := lf2 hf
    exact hret 12 _ dX10_missed_12 rfl

def X10_walk (p0 : Int32) (p1 : Int32) (p2 : Int32) (m0 : Mem) : Option (Int32 × Mem) :=
  bi (X10_isOne p0 m0) fun r2 m2 =>
  if r2 = 0 then
    some ((-2 : Int32), m2)
  else
    bi (X10_isPlace p1 m2) fun r9 m9 =>
    if r9 = 0 then
      some ((-2 : Int32), m9)
    else
      bi (X10_isPlace p2 m9) fun r16 m16 =>
      if r16 = 0 then
        some ((-2 : Int32), m16)
      else
        bv (X10_walks p0 p1 m16) fun m28 =>
        if inn p2 8 then
        if (m28.1 72 p2.toNatClampNeg) = (999 : Int32) then
          some ((-1 : Int32), m28)
        else
          if inn p2 8 then
          some (m28.1 72 p2.toNatClampNeg, m28)
          else none
        else none
abbrev rmX10_walk : Room := { frames := 2, cells := 0, slots := 0, locals := 47 }

set_option maxRecDepth 100000 in
set_option maxHeartbeats 4000000 in
theorem c_X10_walk {l : Launch} {G : GG} {b : Nat} {ad : Nat → Nat} {nt : Nat} {z : Nat → Nat} {p0 : Int32} {p1 : Int32} {p2 : Int32} {m0 : Mem} {r9 : Int32} {m9 : Mem} (hf : X10_walk p0 p1 p2 m0 = some (r9, m9)) : MtI l yX10_walk cX10_walk 4 (some .int) rmX10_walk G b (sg ad nt z) m0 [.ref (ad 63), .int p0, .int p1, .int p2] (pEI r9 (sg ad nt z) m9) := by
  refine mtI_of (by decide) (Nat.le_of_ble_eq_true rfl) .int rfl (fun Γ hG X hnm hr => ?_)
  have hret : ∀ (pc : Nat) (lv : List (Nat × Value)), decode cX10_walk pc = .ok (.ireturn, 1) → narrow .int (.int r9) = .int r9 → Go Γ b (sg ad nt z) 0 0 pc lv [.int r9] m9 := fun pc lv d hn => hr pc lv _ _ _ d ⟨rfl, rfl, rfl⟩ hn
  show Go Γ b (sg ad nt z) 0 0 0 [(0, .ref (ad 63)), (1, .int p0), (2, .int p1), (3, .int p2)] [] m0
  refine g_aload_n X 0 dX10_walk_0 rfl rfl ?_
  refine g_iload_n X 1 dX10_walk_1 rfl rfl ?_
  obtain ⟨r2, m2, h2, hf⟩ := bi_i hf
  refine g_eVI X 63 9 [.int p0] kV_X10_84 (c_X10_isOne h2) dX10_walk_2 rfl rfl (sgN (by decide)) rfl (by decide) rfl rfl ⟨(Nat.le_of_ble_eq_true rfl), (Nat.le_of_ble_eq_true rfl)⟩ ⟨rfl, rfl⟩ ⟨(Nat.zero_le _), (Nat.zero_le _)⟩ (Nat.le_of_ble_eq_true rfl) ?_
  refine g_if_eq X (tgt := 22) dX10_walk_5 (by decide) (fun c5 => ?_) (fun c5 => ?_)
  · have hf := it c5 hf
    refine g_bipush X (v := -2) dX10_walk_22 (by decide) ?_
    obtain ⟨rfl, rfl⟩ := lf2 hf
    exact hret 24 _ dX10_walk_24 rfl
  · have hf := ie c5 hf
    refine g_iload_n X 2 dX10_walk_8 rfl rfl ?_
    obtain ⟨r9, m9, h9, hf⟩ := bi_i hf
    refine g_eSI X [.int p1] kS_X10_106 (c_X10_isPlace h9) dX10_walk_9 rfl rfl ⟨(Nat.le_of_ble_eq_true rfl), (Nat.le_of_ble_eq_true rfl)⟩ ⟨rfl, rfl⟩ ⟨(Nat.zero_le _), (Nat.zero_le _)⟩ (Nat.le_of_ble_eq_true rfl) ?_
    refine g_if_eq X (tgt := 22) dX10_walk_12 (by decide) (fun c12 => ?_) (fun c12 => ?_)
    · have hf := it c12 hf
      refine g_bipush X (v := -2) dX10_walk_22 (by decide) ?_
      obtain ⟨rfl, rfl⟩ := lf2 hf
      exact hret 24 _ dX10_walk_24 rfl
    · have hf := ie c12 hf
      refine g_iload_n X 3 dX10_walk_15 rfl rfl ?_
      obtain ⟨r16, m16, h16, hf⟩ := bi_i hf
      refine g_eSI X [.int p2] kS_X10_106 (c_X10_isPlace h16) dX10_walk_16 rfl rfl ⟨(Nat.le_of_ble_eq_true rfl), (Nat.le_of_ble_eq_true rfl)⟩ ⟨rfl, rfl⟩ ⟨(Nat.zero_le _), (Nat.zero_le _)⟩ (Nat.le_of_ble_eq_true rfl) ?_
      refine g_if_ne X (tgt := 25) dX10_walk_19 (by decide) (fun c19 => ?_) (fun c19 => ?_)
      · have hf := ie c19 hf
        refine g_aload_n X 0 dX10_walk_25 rfl rfl ?_
        refine g_iload_n X 1 dX10_walk_26 rfl rfl ?_
        refine g_iload_n X 2 dX10_walk_27 rfl rfl ?_
        obtain ⟨m28, h28, hf⟩ := bv_i hf
        refine g_eVV X 63 9 [.int p0, .int p1] kV_X10_407 (c_X10_walks h28) dX10_walk_28 rfl rfl (sgN (by decide)) rfl (by decide) rfl rfl ⟨(Nat.le_of_ble_eq_true rfl), (Nat.le_of_ble_eq_true rfl)⟩ ⟨rfl, rfl⟩ ⟨(Nat.zero_le _), (Nat.zero_le _)⟩ (Nat.le_of_ble_eq_true rfl) ?_
        refine g_aload_n X 0 dX10_walk_31 rfl rfl ?_
        refine g_getr X (x := ad 72) 63 9 30 dX10_walk_32 (sgN (by decide)) rfl (by decide) rfl iw_X10 (by decide) rfl q_fl_X10_38 rfl ?_
        refine g_iload_n X 3 dX10_walk_35 rfl rfl ?_
        obtain ⟨h36, hf⟩ := grd hf
        refine g_iald X 72 (n := 8) dX10_walk_36 (sgN (by decide)) rfl rfl h36 ?_
        refine g_sipush X (v := 999) dX10_walk_37 (by decide) ?_
        refine g_icmp_ne X (tgt := 47) dX10_walk_40 (by decide) (fun c40 => ?_) (fun c40 => ?_)
        · have hf := ie c40 hf
          refine g_aload_n X 0 dX10_walk_47 rfl rfl ?_
          refine g_getr X (x := ad 72) 63 9 30 dX10_walk_48 (sgN (by decide)) rfl (by decide) rfl iw_X10 (by decide) rfl q_fl_X10_38 rfl ?_
          refine g_iload_n X 3 dX10_walk_51 rfl rfl ?_
          obtain ⟨h52, hf⟩ := grd hf
          refine g_iald X 72 (n := 8) dX10_walk_52 (sgN (by decide)) rfl rfl h52 ?_
          obtain ⟨rfl, rfl⟩ := lf2 hf
          exact hret 53 _ dX10_walk_53 rfl
        · have hf := it c40 hf
          refine g_iconst X (v := -1) dX10_walk_43 (by decide) ?_
          refine g_goto X (tgt := 53) dX10_walk_44 (by decide) ?_
          obtain ⟨rfl, rfl⟩ := lf2 hf
          exact hret 53 _ dX10_walk_53 rfl
      · have hf := it c19 hf
        refine g_bipush X (v := -2) dX10_walk_22 (by decide) ?_
        obtain ⟨rfl, rfl⟩ := lf2 hf
        exact hret 24 _ dX10_walk_24 rfl

def X10_firstOther_2 : Nat → Int32 → Int32 → Int32 → Mem → Option (Int32 × Mem)
  | 0, _, _, _, _ => none
  | n + 1, v1, v2, v3, m0 =>
    if (8 : Int32) ≤ v3 then
      some ((-1 : Int32), m0)
    else
      bi (X10_worthOf v2 v3 m0) fun r11 m11 =>
      if inn (((40 : Int32) * v1) + v3) 160 then
      if r11 = (m11.1 78 (((40 : Int32) * v1) + v3).toNatClampNeg) then
        X10_firstOther_2 n v1 v2 (v3 + (1 : Int32)) m11
      else
        some (v3, m11)
      else none
def X10_firstOther (p0 : Int32) (p1 : Int32) (m0 : Mem) : Option (Int32 × Mem) :=
  X10_firstOther_2 10000 p0 p1 (0 : Int32) m0
abbrev rmX10_firstOther : Room := { frames := 44, cells := 0, slots := 0, locals := 979 }
set_option maxRecDepth 100000 in
set_option maxHeartbeats 4000000 in
theorem w_X10_firstOther_2 {Γ : Ga} {b : Nat} {ad : Nat → Nat} {nt : Nat} {z : Nat → Nat} {r9 : Int32} {m9 : Mem} (X : Cx Γ b cX10_firstOther 4 RX10 (some .int) rmX10_firstOther) (hret : ∀ (pc : Nat) (lv : List (Nat × Value)), decode cX10_firstOther pc = .ok (.ireturn, 1) → narrow .int (.int r9) = .int r9 → Go Γ b (sg ad nt z) 0 0 pc lv [.int r9] m9) : ∀ (n : Nat) (v1 : Int32) (v2 : Int32) (v3 : Int32) (m0 : Mem), X10_firstOther_2 n v1 v2 v3 m0 = some (r9, m9) → Go Γ b (sg ad nt z) 0 0 2 [(0, .ref (ad 63)), (1, .int v1), (2, .int v2), (3, .int v3)] [] m0 := by
  intro n
  induction n with
  | zero =>
    intro v1 v2 v3 m0 hf
    cases hf
  | succ n ih =>
    intro v1 v2 v3 m0 hf
    refine g_iload_n X 3 dX10_firstOther_2 rfl rfl ?_
    refine g_bipush X (v := 8) dX10_firstOther_3 (by decide) ?_
    refine g_icmp_ge X (tgt := 36) dX10_firstOther_5 (by decide) (fun c5 => ?_) (fun c5 => ?_)
    · have hf := it c5 hf
      refine g_iconst X (v := -1) dX10_firstOther_36 (by decide) ?_
      obtain ⟨rfl, rfl⟩ := lf2 hf
      exact hret 37 _ dX10_firstOther_37 rfl
    · have hf := ie c5 hf
      refine g_aload_n X 0 dX10_firstOther_8 rfl rfl ?_
      refine g_iload_n X 2 dX10_firstOther_9 rfl rfl ?_
      refine g_iload_n X 3 dX10_firstOther_10 rfl rfl ?_
      obtain ⟨r11, m11, h11, hf⟩ := bi_i hf
      refine g_eVI X 63 9 [.int v2, .int v3] kV_X10_131 (c_X10_worthOf h11) dX10_firstOther_11 rfl rfl (sgN (by decide)) rfl (by decide) rfl rfl ⟨(Nat.le_of_ble_eq_true rfl), (Nat.le_of_ble_eq_true rfl)⟩ ⟨rfl, rfl⟩ ⟨(Nat.zero_le _), (Nat.zero_le _)⟩ (Nat.le_of_ble_eq_true rfl) ?_
      refine g_aload_n X 0 dX10_firstOther_14 rfl rfl ?_
      refine g_getr X (x := ad 78) 63 9 39 dX10_firstOther_15 (sgN (by decide)) rfl (by decide) rfl iw_X10 (by decide) rfl q_fl_X10_60 rfl ?_
      refine g_bipush X (v := 40) dX10_firstOther_18 (by decide) ?_
      refine g_iload_n X 1 dX10_firstOther_20 rfl rfl ?_
      refine g_imul X dX10_firstOther_21 ?_
      refine g_iload_n X 3 dX10_firstOther_22 rfl rfl ?_
      refine g_iadd X dX10_firstOther_23 ?_
      obtain ⟨h24, hf⟩ := grd hf
      refine g_iald X 78 (n := 160) dX10_firstOther_24 (sgN (by decide)) rfl rfl h24 ?_
      refine g_icmp_eq X (tgt := 30) dX10_firstOther_25 (by decide) (fun c25 => ?_) (fun c25 => ?_)
      · have hf := it c25 hf
        refine g_iinc X 3 (v := v3 + (1 : Int32)) (lv' := [(3, .int (v3 + (1 : Int32))), (0, .ref (ad 63)), (1, .int v1), (2, .int v2)]) dX10_firstOther_30 rfl rfl (by decide) rfl ?_
        refine g_goto X (tgt := 2) dX10_firstOther_33 (by decide) ?_
        refine g_pick [1, 2, 3, 0] (lv' := [(0, .ref (ad 63)), (1, .int v1), (2, .int v2), (3, .int (v3 + (1 : Int32)))]) rfl ?_
        exact ih v1 v2 (v3 + (1 : Int32)) m11 hf
      · have hf := ie c25 hf
        refine g_iload_n X 3 dX10_firstOther_28 rfl rfl ?_
        obtain ⟨rfl, rfl⟩ := lf2 hf
        exact hret 29 _ dX10_firstOther_29 rfl
set_option maxRecDepth 100000 in
set_option maxHeartbeats 4000000 in
theorem c_X10_firstOther {l : Launch} {G : GG} {b : Nat} {ad : Nat → Nat} {nt : Nat} {z : Nat → Nat} {p0 : Int32} {p1 : Int32} {m0 : Mem} {r9 : Int32} {m9 : Mem} (hf : X10_firstOther p0 p1 m0 = some (r9, m9)) : MtI l yX10_firstOther cX10_firstOther 4 (some .int) rmX10_firstOther G b (sg ad nt z) m0 [.ref (ad 63), .int p0, .int p1] (pEI r9 (sg ad nt z) m9) := by
  refine mtI_of (by decide) (Nat.le_of_ble_eq_true rfl) .int rfl (fun Γ hG X hnm hr => ?_)
  have hret : ∀ (pc : Nat) (lv : List (Nat × Value)), decode cX10_firstOther pc = .ok (.ireturn, 1) → narrow .int (.int r9) = .int r9 → Go Γ b (sg ad nt z) 0 0 pc lv [.int r9] m9 := fun pc lv d hn => hr pc lv _ _ _ d ⟨rfl, rfl, rfl⟩ hn
  show Go Γ b (sg ad nt z) 0 0 0 [(0, .ref (ad 63)), (1, .int p0), (2, .int p1)] [] m0
  refine g_iconst X (v := 0) dX10_firstOther_0 (by decide) ?_
  refine g_istore_n X (lv' := [(3, .int (0 : Int32)), (0, .ref (ad 63)), (1, .int p0), (2, .int p1)]) dX10_firstOther_1 rfl (by decide) rfl ?_
  refine g_pick [1, 2, 3, 0] (lv' := [(0, .ref (ad 63)), (1, .int p0), (2, .int p1), (3, .int (0 : Int32))]) rfl ?_
  exact w_X10_firstOther_2 X hret 10000 p0 p1 (0 : Int32) m0 hf

theorem kV_X10_410 : wcV RX10 410 RX10 yX10_firstOther cX10_firstOther 4 (some .int) 2 := ⟨q_ml_X10_410, q_im_yX10_firstOther, q_se_yX10_firstOther, q_in_X10, q_co_yX10_firstOther, by decide +kernel⟩

def X10_likeSet_28 (k4 : Int32 → Int32 → Int32 → Mem → Option (Int32 × Mem)) (v1 : Int32) (v3 : Int32) (s0 : Int32) (s1 : Int32) (m0 : Mem) : Option (Int32 × Mem) :=
  k4 v1 (s1 ||| (s0 <<< (v3 &&& 31))) (v3 + (1 : Int32)) m0
def X10_likeSet_4 : Nat → Int32 → Int32 → Int32 → Mem → Option (Int32 × Mem)
  | 0, _, _, _, _ => none
  | n + 1, v1, v2, v3, m0 =>
    if (m0.1 63 11) ≤ v3 then
      some (v2, m0)
    else
      bi (X10_firstOther v1 v3 m0) fun r16 m16 =>
      if r16 = (-1 : Int32) then
        X10_likeSet_28 (X10_likeSet_4 n) v1 v3 (1 : Int32) v2 m16
      else
        X10_likeSet_28 (X10_likeSet_4 n) v1 v3 (0 : Int32) v2 m16
def X10_likeSet (p0 : Int32) (m0 : Mem) : Option (Int32 × Mem) :=
  X10_likeSet_4 10000 p0 (0 : Int32) (0 : Int32) m0
abbrev rmX10_likeSet : Room := { frames := 45, cells := 0, slots := 0, locals := 1002 }
set_option maxRecDepth 100000 in
set_option maxHeartbeats 4000000 in
theorem w_X10_likeSet_28 {Γ : Ga} {b : Nat} {ad : Nat → Nat} {nt : Nat} {z : Nat → Nat} {k4 : Int32 → Int32 → Int32 → Mem → Option (Int32 × Mem)} {r9 : Int32} {m9 : Mem} (X : Cx Γ b cX10_likeSet 4 RX10 (some .int) rmX10_likeSet) (hret : ∀ (pc : Nat) (lv : List (Nat × Value)), decode cX10_likeSet pc = .ok (.ireturn, 1) → narrow .int (.int r9) = .int r9 → Go Γ b (sg ad nt z) 0 0 pc lv [.int r9] m9) (hk4 : ∀ (v1 : Int32) (v2 : Int32) (v3 : Int32) (m0 : Mem), k4 v1 v2 v3 m0 = some (r9, m9) → Go Γ b (sg ad nt z) 0 0 4 [(0, .ref (ad 63)), (1, .int v1), (2, .int v2), (3, .int v3)] [] m0) (v1 : Int32) (v3 : Int32) (s0 : Int32) (s1 : Int32) (m0 : Mem) (hf : X10_likeSet_28 k4 v1 v3 s0 s1 m0 = some (r9, m9)) : Go Γ b (sg ad nt z) 0 0 28 [(0, .ref (ad 63)), (1, .int v1), (3, .int v3)] [.int s0, .int s1] m0 := by
  refine g_iload_n X 2 dX10_likeSet_28 rfl rfl ?_
  refine g_ishl X dX10_likeSet_29 ?_
  refine g_ior X dX10_likeSet_30 ?_
  refine g_istore_n X (lv' := [(2, .int (s1 ||| (s0 <<< (v3 &&& 31)))), (0, .ref (ad 63)), (1, .int v1), (3, .int v3)]) dX10_likeSet_31 rfl (by decide) rfl ?_
  refine g_iinc X 3 (v := v3 + (1 : Int32)) (lv' := [(3, .int (v3 + (1 : Int32))), (2, .int (s1 ||| (s0 <<< (v3 &&& 31)))), (0, .ref (ad 63)), (1, .int v1)]) dX10_likeSet_32 rfl rfl (by decide) rfl ?_
  refine g_goto X (tgt := 4) dX10_likeSet_35 (by decide) ?_
  refine g_pick [2, 3, 1, 0] (lv' := [(0, .ref (ad 63)), (1, .int v1), (2, .int (s1 ||| (s0 <<< (v3 &&& 31)))), (3, .int (v3 + (1 : Int32)))]) rfl ?_
  exact hk4 v1 (s1 ||| (s0 <<< (v3 &&& 31))) (v3 + (1 : Int32)) m0 hf
set_option maxRecDepth 100000 in
set_option maxHeartbeats 4000000 in
theorem w_X10_likeSet_4 {Γ : Ga} {b : Nat} {ad : Nat → Nat} {nt : Nat} {z : Nat → Nat} {r9 : Int32} {m9 : Mem} (X : Cx Γ b cX10_likeSet 4 RX10 (some .int) rmX10_likeSet) (hret : ∀ (pc : Nat) (lv : List (Nat × Value)), decode cX10_likeSet pc = .ok (.ireturn, 1) → narrow .int (.int r9) = .int r9 → Go Γ b (sg ad nt z) 0 0 pc lv [.int r9] m9) : ∀ (n : Nat) (v1 : Int32) (v2 : Int32) (v3 : Int32) (m0 : Mem), X10_likeSet_4 n v1 v2 v3 m0 = some (r9, m9) → Go Γ b (sg ad nt z) 0 0 4 [(0, .ref (ad 63)), (1, .int v1), (2, .int v2), (3, .int v3)] [] m0 := by
  intro n
  induction n with
  | zero =>
    intro v1 v2 v3 m0 hf
    cases hf
  | succ n ih =>
    intro v1 v2 v3 m0 hf
    refine g_iload_n X 3 dX10_likeSet_4 rfl rfl ?_
    refine g_aload_n X 0 dX10_likeSet_5 rfl rfl ?_
    refine g_getI X 63 9 11 dX10_likeSet_6 (sgN (by decide)) rfl (by decide) rfl iw_X10 (by decide) rfl q_fl_X10_73 ?_
    refine g_icmp_ge X (tgt := 38) dX10_likeSet_9 (by decide) (fun c9 => ?_) (fun c9 => ?_)
    · have hf := it c9 hf
      refine g_iload_n X 2 dX10_likeSet_38 rfl rfl ?_
      obtain ⟨rfl, rfl⟩ := lf2 hf
      exact hret 39 _ dX10_likeSet_39 rfl
    · have hf := ie c9 hf
      refine g_iload_n X 2 dX10_likeSet_12 rfl rfl ?_
      refine g_aload_n X 0 dX10_likeSet_13 rfl rfl ?_
      refine g_iload_n X 1 dX10_likeSet_14 rfl rfl ?_
      refine g_iload_n X 3 dX10_likeSet_15 rfl rfl ?_
      obtain ⟨r16, m16, h16, hf⟩ := bi_i hf
      refine g_eVI X 63 9 [.int v1, .int v3] kV_X10_410 (c_X10_firstOther h16) dX10_likeSet_16 rfl rfl (sgN (by decide)) rfl (by decide) rfl rfl ⟨(Nat.le_of_ble_eq_true rfl), (Nat.le_of_ble_eq_true rfl)⟩ ⟨rfl, rfl⟩ ⟨(Nat.zero_le _), (Nat.zero_le _)⟩ (Nat.le_of_ble_eq_true rfl) ?_
      refine g_iconst X (v := -1) dX10_likeSet_19 (by decide) ?_
      refine g_icmp_ne X (tgt := 27) dX10_likeSet_20 (by decide) (fun c20 => ?_) (fun c20 => ?_)
      · have hf := ie c20 hf
        refine g_iconst X (v := 0) dX10_likeSet_27 (by decide) ?_
        refine g_pick [0, 1, 3] (lv' := [(0, .ref (ad 63)), (1, .int v1), (3, .int v3)]) rfl ?_
        exact w_X10_likeSet_28 X hret ih v1 v3 (0 : Int32) v2 m16 hf
      · have hf := it c20 hf
        refine g_iconst X (v := 1) dX10_likeSet_23 (by decide) ?_
        refine g_goto X (tgt := 28) dX10_likeSet_24 (by decide) ?_
        refine g_pick [0, 1, 3] (lv' := [(0, .ref (ad 63)), (1, .int v1), (3, .int v3)]) rfl ?_
        exact w_X10_likeSet_28 X hret ih v1 v3 (1 : Int32) v2 m16 hf
set_option maxRecDepth 100000 in
set_option maxHeartbeats 4000000 in
theorem c_X10_likeSet {l : Launch} {G : GG} {b : Nat} {ad : Nat → Nat} {nt : Nat} {z : Nat → Nat} {p0 : Int32} {m0 : Mem} {r9 : Int32} {m9 : Mem} (hf : X10_likeSet p0 m0 = some (r9, m9)) : MtI l yX10_likeSet cX10_likeSet 4 (some .int) rmX10_likeSet G b (sg ad nt z) m0 [.ref (ad 63), .int p0] (pEI r9 (sg ad nt z) m9) := by
  refine mtI_of (by decide) (Nat.le_of_ble_eq_true rfl) .int rfl (fun Γ hG X hnm hr => ?_)
  have hret : ∀ (pc : Nat) (lv : List (Nat × Value)), decode cX10_likeSet pc = .ok (.ireturn, 1) → narrow .int (.int r9) = .int r9 → Go Γ b (sg ad nt z) 0 0 pc lv [.int r9] m9 := fun pc lv d hn => hr pc lv _ _ _ d ⟨rfl, rfl, rfl⟩ hn
  show Go Γ b (sg ad nt z) 0 0 0 [(0, .ref (ad 63)), (1, .int p0)] [] m0
  refine g_iconst X (v := 0) dX10_likeSet_0 (by decide) ?_
  refine g_istore_n X (lv' := [(2, .int (0 : Int32)), (0, .ref (ad 63)), (1, .int p0)]) dX10_likeSet_1 rfl (by decide) rfl ?_
  refine g_iconst X (v := 0) dX10_likeSet_2 (by decide) ?_
  refine g_istore_n X (lv' := [(3, .int (0 : Int32)), (2, .int (0 : Int32)), (0, .ref (ad 63)), (1, .int p0)]) dX10_likeSet_3 rfl (by decide) rfl ?_
  refine g_pick [2, 3, 1, 0] (lv' := [(0, .ref (ad 63)), (1, .int p0), (2, .int (0 : Int32)), (3, .int (0 : Int32))]) rfl ?_
  exact w_X10_likeSet_4 X hret 10000 p0 (0 : Int32) (0 : Int32) m0 hf

def X10_isSheet (p0 : Int32) (m0 : Mem) : Option (Int32 × Mem) :=
  bi (X10_in p0.toInt64 (0 : Int64) (3 : Int64) m0) fun r6 m6 =>
  if r6 = 0 ∨ r6 = 1 then some (r6, m6) else none
abbrev rmX10_isSheet : Room := { frames := 1, cells := 0, slots := 0, locals := 25 }

set_option maxRecDepth 100000 in
set_option maxHeartbeats 4000000 in
theorem c_X10_isSheet {l : Launch} {G : GG} {b : Nat} {ad : Nat → Nat} {nt : Nat} {z : Nat → Nat} {p0 : Int32} {m0 : Mem} {r9 : Int32} {m9 : Mem} (hf : X10_isSheet p0 m0 = some (r9, m9)) : MtI l yX10_isSheet cX10_isSheet 1 (some .boolean) rmX10_isSheet G b (sg ad nt z) m0 [.int p0] (pEI r9 (sg ad nt z) m9) := by
  refine mtI_of (by decide) (Nat.le_of_ble_eq_true rfl) .boolean rfl (fun Γ hG X hnm hr => ?_)
  have hret : ∀ (pc : Nat) (lv : List (Nat × Value)), decode cX10_isSheet pc = .ok (.ireturn, 1) → narrow .boolean (.int r9) = .int r9 → Go Γ b (sg ad nt z) 0 0 pc lv [.int r9] m9 := fun pc lv d hn => hr pc lv _ _ _ d ⟨rfl, rfl, rfl⟩ hn
  show Go Γ b (sg ad nt z) 0 0 0 [(0, .int p0)] [] m0
  refine g_iload_n X 0 dX10_isSheet_0 rfl rfl ?_
  refine g_i2l X dX10_isSheet_1 ?_
  refine g_lconst X (v := 0) dX10_isSheet_2 (by decide) ?_
  refine g_ldc2 X dX10_isSheet_3 q_cl_X10_402 ?_
  obtain ⟨r6, m6, h6, hf⟩ := bi_i hf
  refine g_eSI X [.long p0.toInt64, .long (0 : Int64), .long (3 : Int64)] kS_X10_76 (c_X10_in h6) dX10_isSheet_6 rfl rfl ⟨(Nat.le_of_ble_eq_true rfl), (Nat.le_of_ble_eq_true rfl)⟩ ⟨rfl, rfl⟩ ⟨(Nat.zero_le _), (Nat.zero_le _)⟩ (Nat.le_of_ble_eq_true rfl) ?_
  obtain ⟨hz, hf⟩ := grd hf
  obtain ⟨rfl, rfl⟩ := lf2 hf
  exact hret 9 _ dX10_isSheet_9 (nw_z hz)

theorem kS_X10_413 : wcS RX10 413 yX10_isSheet cX10_isSheet 1 (some .boolean) 1 := ⟨q_ml_X10_413, q_st_yX10_isSheet, q_in_X10, q_co_yX10_isSheet, by decide +kernel⟩

theorem kV_X10_416 : wcV RX10 416 RX10 yX10_likeSet cX10_likeSet 4 (some .int) 1 := ⟨q_ml_X10_416, q_im_yX10_likeSet, q_se_yX10_likeSet, q_in_X10, q_co_yX10_likeSet, by decide +kernel⟩

def X10_tells_65 (v1 : Int32) (v2 : Int32) (v3 : Int32) (m0 : Mem) : Option (Int32 × Mem) :=
  if v3 = 0 then
    bi (X10_firstOther v1 v2 m0) fun r72 m72 =>
    some (r72, m72)
  else
    bi (X10_likeSet v1 m0) fun r80 m80 =>
    some (r80, m80)
def X10_tells_203 (k170 : Int32 → Int32 → Int32 → Int32 → Int32 → Int32 → Int32 → Mem → Option (Int32 × Mem)) (v1 : Int32) (v2 : Int32) (v4 : Int32) (v5 : Int32) (v6 : Int32) (v8 : Int32) (s0 : Int32) (s1 : Int32) (m0 : Mem) : Option (Int32 × Mem) :=
  k170 v1 v2 v4 v5 v6 (s1 ||| (s0 <<< (v8 &&& 31))) (v8 + (1 : Int32)) m0
def X10_tells_170 : Nat → Int32 → Int32 → Int32 → Int32 → Int32 → Int32 → Int32 → Mem → Option (Int32 × Mem)
  | 0, _, _, _, _, _, _, _, _ => none
  | n + 1, v1, v2, v4, v5, v6, v7, v8, m0 =>
    if v6 < v8 then
      bv (X10_lays v4 v2 v5 m0) fun m221 =>
      some (v7, m221)
    else
      bv (X10_lays v4 v2 v8 m0) fun m183 =>
      bi (X10_firstOther v1 v2 m183) fun r191 m191 =>
      if r191 = (-1 : Int32) then
        X10_tells_203 (X10_tells_170 n) v1 v2 v4 v5 v6 v8 (1 : Int32) v7 m191
      else
        X10_tells_203 (X10_tells_170 n) v1 v2 v4 v5 v6 v8 (0 : Int32) v7 m191
def X10_tells_162 (v1 : Int32) (v2 : Int32) (v4 : Int32) (v5 : Int32) (s0 : Int32) (m0 : Mem) : Option (Int32 × Mem) :=
  X10_tells_170 10000 v1 v2 v4 v5 s0 (0 : Int32) (0 : Int32) m0
def X10_tells_129 (v1 : Int32) (v2 : Int32) (v4 : Int32) (s0 : Int32) (m0 : Mem) : Option (Int32 × Mem) :=
  if v4 = (6 : Int32) then
    X10_tells_162 v1 v2 v4 s0 ((m0.1 63 3) - (1 : Int32)) m0
  else
    if v4 = (5 : Int32) then
      X10_tells_162 v1 v2 v4 s0 (5 : Int32) m0
    else
      bi (X10_mostOf v4 m0) fun r159 m159 =>
      X10_tells_162 v1 v2 v4 s0 r159 m159
def X10_tells_106 (v1 : Int32) (v2 : Int32) (s0 : Int32) (m0 : Mem) : Option (Int32 × Mem) :=
  if s0 = (6 : Int32) then
    X10_tells_129 v1 v2 s0 (m0.1 63 4) m0
  else
    bi (X10_told v2 s0 m0) fun r126 m126 =>
    X10_tells_129 v1 v2 s0 r126 m126
def X10_tells (p0 : Int32) (p1 : Int32) (p2 : Int32) (m0 : Mem) : Option (Int32 × Mem) :=
  bi (X10_isSheet p0 m0) fun r1 m1 =>
  if r1 = 0 then
    some ((-2 : Int32), m1)
  else
    bi (X10_isOne p1 m1) fun r9 m9 =>
    if r9 = 0 then
      some ((-2 : Int32), m9)
    else
      bi (X10_in p2.toInt64 (0 : Int64) (5 : Int64) m9) fun r21 m21 =>
      if r21 = 0 then
        some ((-2 : Int32), m21)
      else
        if inn p0 4 then
        if (m21.1 75 p0.toNatClampNeg) = 0 then
          some ((-11 : Int32), m21)
        else
          if inn p0 4 then
          if (m21.1 77 p0.toNatClampNeg) = (8 : Int32) then
            if p2 = 0 then
              X10_tells_65 p0 p1 p2 m21
            else
              if p2 = (5 : Int32) then
                X10_tells_65 p0 p1 p2 m21
              else
                if p2 = (1 : Int32) then
                  X10_tells_106 p0 p1 (5 : Int32) m21
                else
                  if p2 = (4 : Int32) then
                    X10_tells_106 p0 p1 (6 : Int32) m21
                  else
                    X10_tells_106 p0 p1 (p2 - (1 : Int32)) m21
          else
            some ((-2 : Int32), m21)
          else none
        else none
abbrev rmX10_tells : Room := { frames := 46, cells := 0, slots := 0, locals := 1025 }
set_option maxRecDepth 100000 in
set_option maxHeartbeats 4000000 in
theorem w_X10_tells_65 {Γ : Ga} {b : Nat} {ad : Nat → Nat} {nt : Nat} {z : Nat → Nat} {r9 : Int32} {m9 : Mem} (X : Cx Γ b cX10_tells 9 RX10 (some .int) rmX10_tells) (hret : ∀ (pc : Nat) (lv : List (Nat × Value)), decode cX10_tells pc = .ok (.ireturn, 1) → narrow .int (.int r9) = .int r9 → Go Γ b (sg ad nt z) 0 0 pc lv [.int r9] m9) (v1 : Int32) (v2 : Int32) (v3 : Int32) (m0 : Mem) (hf : X10_tells_65 v1 v2 v3 m0 = some (r9, m9)) : Go Γ b (sg ad nt z) 0 0 65 [(0, .ref (ad 63)), (1, .int v1), (2, .int v2), (3, .int v3)] [] m0 := by
  refine g_iload_n X 3 dX10_tells_65 rfl rfl ?_
  refine g_if_ne X (tgt := 78) dX10_tells_66 (by decide) (fun c66 => ?_) (fun c66 => ?_)
  · have hf := ie c66 hf
    refine g_aload_n X 0 dX10_tells_78 rfl rfl ?_
    refine g_iload_n X 1 dX10_tells_79 rfl rfl ?_
    obtain ⟨r80, m80, h80, hf⟩ := bi_i hf
    refine g_eVI X 63 9 [.int v1] kV_X10_416 (c_X10_likeSet h80) dX10_tells_80 rfl rfl (sgN (by decide)) rfl (by decide) rfl rfl ⟨(Nat.le_of_ble_eq_true rfl), (Nat.le_of_ble_eq_true rfl)⟩ ⟨rfl, rfl⟩ ⟨(Nat.zero_le _), (Nat.zero_le _)⟩ (Nat.le_of_ble_eq_true rfl) ?_
    obtain ⟨rfl, rfl⟩ := lf2 hf
    exact hret 83 _ dX10_tells_83 rfl
  · have hf := it c66 hf
    refine g_aload_n X 0 dX10_tells_69 rfl rfl ?_
    refine g_iload_n X 1 dX10_tells_70 rfl rfl ?_
    refine g_iload_n X 2 dX10_tells_71 rfl rfl ?_
    obtain ⟨r72, m72, h72, hf⟩ := bi_i hf
    refine g_eVI X 63 9 [.int v1, .int v2] kV_X10_410 (c_X10_firstOther h72) dX10_tells_72 rfl rfl (sgN (by decide)) rfl (by decide) rfl rfl ⟨(Nat.le_of_ble_eq_true rfl), (Nat.le_of_ble_eq_true rfl)⟩ ⟨rfl, rfl⟩ ⟨(Nat.zero_le _), (Nat.zero_le _)⟩ (Nat.le_of_ble_eq_true rfl) ?_
    refine g_goto X (tgt := 83) dX10_tells_75 (by decide) ?_
    obtain ⟨rfl, rfl⟩ := lf2 hf
    exact hret 83 _ dX10_tells_83 rfl
set_option maxRecDepth 100000 in
set_option maxHeartbeats 4000000 in
theorem w_X10_tells_203 {Γ : Ga} {b : Nat} {ad : Nat → Nat} {nt : Nat} {z : Nat → Nat} {k170 : Int32 → Int32 → Int32 → Int32 → Int32 → Int32 → Int32 → Mem → Option (Int32 × Mem)} {r9 : Int32} {m9 : Mem} (X : Cx Γ b cX10_tells 9 RX10 (some .int) rmX10_tells) (hret : ∀ (pc : Nat) (lv : List (Nat × Value)), decode cX10_tells pc = .ok (.ireturn, 1) → narrow .int (.int r9) = .int r9 → Go Γ b (sg ad nt z) 0 0 pc lv [.int r9] m9) (hk170 : ∀ (v1 : Int32) (v2 : Int32) (v4 : Int32) (v5 : Int32) (v6 : Int32) (v7 : Int32) (v8 : Int32) (m0 : Mem), k170 v1 v2 v4 v5 v6 v7 v8 m0 = some (r9, m9) → Go Γ b (sg ad nt z) 0 0 170 [(0, .ref (ad 63)), (1, .int v1), (2, .int v2), (4, .int v4), (5, .int v5), (6, .int v6), (7, .int v7), (8, .int v8)] [] m0) (v1 : Int32) (v2 : Int32) (v4 : Int32) (v5 : Int32) (v6 : Int32) (v8 : Int32) (s0 : Int32) (s1 : Int32) (m0 : Mem) (hf : X10_tells_203 k170 v1 v2 v4 v5 v6 v8 s0 s1 m0 = some (r9, m9)) : Go Γ b (sg ad nt z) 0 0 203 [(0, .ref (ad 63)), (1, .int v1), (2, .int v2), (4, .int v4), (5, .int v5), (6, .int v6), (8, .int v8)] [.int s0, .int s1] m0 := by
  refine g_iload X 6 dX10_tells_203 rfl ?_
  refine g_ishl X dX10_tells_205 ?_
  refine g_ior X dX10_tells_206 ?_
  refine g_istore X (lv' := [(7, .int (s1 ||| (s0 <<< (v8 &&& 31)))), (0, .ref (ad 63)), (1, .int v1), (2, .int v2), (4, .int v4), (5, .int v5), (6, .int v6), (8, .int v8)]) dX10_tells_207 (by decide) rfl ?_
  refine g_iinc X 7 (v := v8 + (1 : Int32)) (lv' := [(8, .int (v8 + (1 : Int32))), (7, .int (s1 ||| (s0 <<< (v8 &&& 31)))), (0, .ref (ad 63)), (1, .int v1), (2, .int v2), (4, .int v4), (5, .int v5), (6, .int v6)]) dX10_tells_209 rfl rfl (by decide) rfl ?_
  refine g_goto X (tgt := 170) dX10_tells_212 (by decide) ?_
  refine g_pick [2, 3, 4, 5, 6, 7, 1, 0] (lv' := [(0, .ref (ad 63)), (1, .int v1), (2, .int v2), (4, .int v4), (5, .int v5), (6, .int v6), (7, .int (s1 ||| (s0 <<< (v8 &&& 31)))), (8, .int (v8 + (1 : Int32)))]) rfl ?_
  exact hk170 v1 v2 v4 v5 v6 (s1 ||| (s0 <<< (v8 &&& 31))) (v8 + (1 : Int32)) m0 hf
set_option maxRecDepth 100000 in
set_option maxHeartbeats 4000000 in
theorem w_X10_tells_170 {Γ : Ga} {b : Nat} {ad : Nat → Nat} {nt : Nat} {z : Nat → Nat} {r9 : Int32} {m9 : Mem} (X : Cx Γ b cX10_tells 9 RX10 (some .int) rmX10_tells) (hret : ∀ (pc : Nat) (lv : List (Nat × Value)), decode cX10_tells pc = .ok (.ireturn, 1) → narrow .int (.int r9) = .int r9 → Go Γ b (sg ad nt z) 0 0 pc lv [.int r9] m9) : ∀ (n : Nat) (v1 : Int32) (v2 : Int32) (v4 : Int32) (v5 : Int32) (v6 : Int32) (v7 : Int32) (v8 : Int32) (m0 : Mem), X10_tells_170 n v1 v2 v4 v5 v6 v7 v8 m0 = some (r9, m9) → Go Γ b (sg ad nt z) 0 0 170 [(0, .ref (ad 63)), (1, .int v1), (2, .int v2), (4, .int v4), (5, .int v5), (6, .int v6), (7, .int v7), (8, .int v8)] [] m0 := by
  intro n
  induction n with
  | zero =>
    intro v1 v2 v4 v5 v6 v7 v8 m0 hf
    cases hf
  | succ n ih =>
    intro v1 v2 v4 v5 v6 v7 v8 m0 hf
    refine g_iload X 7 dX10_tells_170 rfl ?_
    refine g_iload X 5 dX10_tells_172 rfl ?_
    refine g_icmp_gt X (tgt := 215) dX10_tells_174 (by decide) (fun c174 => ?_) (fun c174 => ?_)
    · have hf := it c174 hf
      refine g_aload_n X 0 dX10_tells_215 rfl rfl ?_
      refine g_iload X 3 dX10_tells_216 rfl ?_
      refine g_iload_n X 2 dX10_tells_218 rfl rfl ?_
      refine g_iload X 4 dX10_tells_219 rfl ?_
      obtain ⟨m221, h221, hf⟩ := bv_i hf
      refine g_eVV X 63 9 [.int v4, .int v2, .int v5] kV_X10_96 (c_X10_lays h221) dX10_tells_221 rfl rfl (sgN (by decide)) rfl (by decide) rfl rfl ⟨(Nat.le_of_ble_eq_true rfl), (Nat.le_of_ble_eq_true rfl)⟩ ⟨rfl, rfl⟩ ⟨(Nat.zero_le _), (Nat.zero_le _)⟩ (Nat.le_of_ble_eq_true rfl) ?_
      refine g_iload X 6 dX10_tells_224 rfl ?_
      obtain ⟨rfl, rfl⟩ := lf2 hf
      exact hret 226 _ dX10_tells_226 rfl
    · have hf := ie c174 hf
      refine g_aload_n X 0 dX10_tells_177 rfl rfl ?_
      refine g_iload X 3 dX10_tells_178 rfl ?_
      refine g_iload_n X 2 dX10_tells_180 rfl rfl ?_
      refine g_iload X 7 dX10_tells_181 rfl ?_
      obtain ⟨m183, h183, hf⟩ := bv_i hf
      refine g_eVV X 63 9 [.int v4, .int v2, .int v8] kV_X10_96 (c_X10_lays h183) dX10_tells_183 rfl rfl (sgN (by decide)) rfl (by decide) rfl rfl ⟨(Nat.le_of_ble_eq_true rfl), (Nat.le_of_ble_eq_true rfl)⟩ ⟨rfl, rfl⟩ ⟨(Nat.zero_le _), (Nat.zero_le _)⟩ (Nat.le_of_ble_eq_true rfl) ?_
      refine g_iload X 6 dX10_tells_186 rfl ?_
      refine g_aload_n X 0 dX10_tells_188 rfl rfl ?_
      refine g_iload_n X 1 dX10_tells_189 rfl rfl ?_
      refine g_iload_n X 2 dX10_tells_190 rfl rfl ?_
      obtain ⟨r191, m191, h191, hf⟩ := bi_i hf
      refine g_eVI X 63 9 [.int v1, .int v2] kV_X10_410 (c_X10_firstOther h191) dX10_tells_191 rfl rfl (sgN (by decide)) rfl (by decide) rfl rfl ⟨(Nat.le_of_ble_eq_true rfl), (Nat.le_of_ble_eq_true rfl)⟩ ⟨rfl, rfl⟩ ⟨(Nat.zero_le _), (Nat.zero_le _)⟩ (Nat.le_of_ble_eq_true rfl) ?_
      refine g_iconst X (v := -1) dX10_tells_194 (by decide) ?_
      refine g_icmp_ne X (tgt := 202) dX10_tells_195 (by decide) (fun c195 => ?_) (fun c195 => ?_)
      · have hf := ie c195 hf
        refine g_iconst X (v := 0) dX10_tells_202 (by decide) ?_
        refine g_pick [0, 1, 2, 3, 4, 5, 7] (lv' := [(0, .ref (ad 63)), (1, .int v1), (2, .int v2), (4, .int v4), (5, .int v5), (6, .int v6), (8, .int v8)]) rfl ?_
        exact w_X10_tells_203 X hret ih v1 v2 v4 v5 v6 v8 (0 : Int32) v7 m191 hf
      · have hf := it c195 hf
        refine g_iconst X (v := 1) dX10_tells_198 (by decide) ?_
        refine g_goto X (tgt := 203) dX10_tells_199 (by decide) ?_
        refine g_pick [0, 1, 2, 3, 4, 5, 7] (lv' := [(0, .ref (ad 63)), (1, .int v1), (2, .int v2), (4, .int v4), (5, .int v5), (6, .int v6), (8, .int v8)]) rfl ?_
        exact w_X10_tells_203 X hret ih v1 v2 v4 v5 v6 v8 (1 : Int32) v7 m191 hf
set_option maxRecDepth 100000 in
set_option maxHeartbeats 4000000 in
theorem w_X10_tells_162 {Γ : Ga} {b : Nat} {ad : Nat → Nat} {nt : Nat} {z : Nat → Nat} {r9 : Int32} {m9 : Mem} (X : Cx Γ b cX10_tells 9 RX10 (some .int) rmX10_tells) (hret : ∀ (pc : Nat) (lv : List (Nat × Value)), decode cX10_tells pc = .ok (.ireturn, 1) → narrow .int (.int r9) = .int r9 → Go Γ b (sg ad nt z) 0 0 pc lv [.int r9] m9) (v1 : Int32) (v2 : Int32) (v4 : Int32) (v5 : Int32) (s0 : Int32) (m0 : Mem) (hf : X10_tells_162 v1 v2 v4 v5 s0 m0 = some (r9, m9)) : Go Γ b (sg ad nt z) 0 0 162 [(0, .ref (ad 63)), (1, .int v1), (2, .int v2), (4, .int v4), (5, .int v5)] [.int s0] m0 := by
  refine g_istore X (lv' := [(6, .int s0), (0, .ref (ad 63)), (1, .int v1), (2, .int v2), (4, .int v4), (5, .int v5)]) dX10_tells_162 (by decide) rfl ?_
  refine g_iconst X (v := 0) dX10_tells_164 (by decide) ?_
  refine g_istore X (lv' := [(7, .int (0 : Int32)), (6, .int s0), (0, .ref (ad 63)), (1, .int v1), (2, .int v2), (4, .int v4), (5, .int v5)]) dX10_tells_165 (by decide) rfl ?_
  refine g_iconst X (v := 0) dX10_tells_167 (by decide) ?_
  refine g_istore X (lv' := [(8, .int (0 : Int32)), (7, .int (0 : Int32)), (6, .int s0), (0, .ref (ad 63)), (1, .int v1), (2, .int v2), (4, .int v4), (5, .int v5)]) dX10_tells_168 (by decide) rfl ?_
  refine g_pick [3, 4, 5, 6, 7, 2, 1, 0] (lv' := [(0, .ref (ad 63)), (1, .int v1), (2, .int v2), (4, .int v4), (5, .int v5), (6, .int s0), (7, .int (0 : Int32)), (8, .int (0 : Int32))]) rfl ?_
  exact w_X10_tells_170 X hret 10000 v1 v2 v4 v5 s0 (0 : Int32) (0 : Int32) m0 hf
set_option maxRecDepth 100000 in
set_option maxHeartbeats 4000000 in
theorem w_X10_tells_129 {Γ : Ga} {b : Nat} {ad : Nat → Nat} {nt : Nat} {z : Nat → Nat} {r9 : Int32} {m9 : Mem} (X : Cx Γ b cX10_tells 9 RX10 (some .int) rmX10_tells) (hret : ∀ (pc : Nat) (lv : List (Nat × Value)), decode cX10_tells pc = .ok (.ireturn, 1) → narrow .int (.int r9) = .int r9 → Go Γ b (sg ad nt z) 0 0 pc lv [.int r9] m9) (v1 : Int32) (v2 : Int32) (v4 : Int32) (s0 : Int32) (m0 : Mem) (hf : X10_tells_129 v1 v2 v4 s0 m0 = some (r9, m9)) : Go Γ b (sg ad nt z) 0 0 129 [(0, .ref (ad 63)), (1, .int v1), (2, .int v2), (4, .int v4)] [.int s0] m0 := by
  refine g_istore X (lv' := [(5, .int s0), (0, .ref (ad 63)), (1, .int v1), (2, .int v2), (4, .int v4)]) dX10_tells_129 (by decide) rfl ?_
  refine g_iload X 4 dX10_tells_131 rfl ?_
  refine g_bipush X (v := 6) dX10_tells_133 (by decide) ?_
  refine g_icmp_ne X (tgt := 147) dX10_tells_135 (by decide) (fun c135 => ?_) (fun c135 => ?_)
  · have hf := ie c135 hf
    refine g_iload X 4 dX10_tells_147 rfl ?_
    refine g_iconst X (v := 5) dX10_tells_149 (by decide) ?_
    refine g_icmp_ne X (tgt := 157) dX10_tells_150 (by decide) (fun c150 => ?_) (fun c150 => ?_)
    · have hf := ie c150 hf
      refine g_iload X 4 dX10_tells_157 rfl ?_
      obtain ⟨r159, m159, h159, hf⟩ := bi_i hf
      refine g_eSI X [.int v4] kS_X10_88 (c_X10_mostOf h159) dX10_tells_159 rfl rfl ⟨(Nat.le_of_ble_eq_true rfl), (Nat.le_of_ble_eq_true rfl)⟩ ⟨rfl, rfl⟩ ⟨(Nat.zero_le _), (Nat.zero_le _)⟩ (Nat.le_of_ble_eq_true rfl) ?_
      refine g_pick [1, 2, 3, 4, 0] (lv' := [(0, .ref (ad 63)), (1, .int v1), (2, .int v2), (4, .int v4), (5, .int s0)]) rfl ?_
      exact w_X10_tells_162 X hret v1 v2 v4 s0 r159 m159 hf
    · have hf := it c150 hf
      refine g_iconst X (v := 5) dX10_tells_153 (by decide) ?_
      refine g_goto X (tgt := 162) dX10_tells_154 (by decide) ?_
      refine g_pick [1, 2, 3, 4, 0] (lv' := [(0, .ref (ad 63)), (1, .int v1), (2, .int v2), (4, .int v4), (5, .int s0)]) rfl ?_
      exact w_X10_tells_162 X hret v1 v2 v4 s0 (5 : Int32) m0 hf
  · have hf := it c135 hf
    refine g_aload_n X 1 dX10_tells_138 rfl rfl ?_
    refine g_getI X 63 9 3 dX10_tells_139 (sgN (by decide)) rfl (by decide) rfl iw_X10 (by decide) rfl q_fl_X10_70 ?_
    refine g_iconst X (v := 1) dX10_tells_142 (by decide) ?_
    refine g_isub X dX10_tells_143 ?_
    refine g_goto X (tgt := 162) dX10_tells_144 (by decide) ?_
    refine g_pick [1, 2, 3, 4, 0] (lv' := [(0, .ref (ad 63)), (1, .int v1), (2, .int v2), (4, .int v4), (5, .int s0)]) rfl ?_
    exact w_X10_tells_162 X hret v1 v2 v4 s0 ((m0.1 63 3) - (1 : Int32)) m0 hf
set_option maxRecDepth 100000 in
set_option maxHeartbeats 4000000 in
theorem w_X10_tells_106 {Γ : Ga} {b : Nat} {ad : Nat → Nat} {nt : Nat} {z : Nat → Nat} {r9 : Int32} {m9 : Mem} (X : Cx Γ b cX10_tells 9 RX10 (some .int) rmX10_tells) (hret : ∀ (pc : Nat) (lv : List (Nat × Value)), decode cX10_tells pc = .ok (.ireturn, 1) → narrow .int (.int r9) = .int r9 → Go Γ b (sg ad nt z) 0 0 pc lv [.int r9] m9) (v1 : Int32) (v2 : Int32) (s0 : Int32) (m0 : Mem) (hf : X10_tells_106 v1 v2 s0 m0 = some (r9, m9)) : Go Γ b (sg ad nt z) 0 0 106 [(0, .ref (ad 63)), (1, .int v1), (2, .int v2)] [.int s0] m0 := by
  refine g_istore X (lv' := [(4, .int s0), (0, .ref (ad 63)), (1, .int v1), (2, .int v2)]) dX10_tells_106 (by decide) rfl ?_
  refine g_iload X 0 dX10_tells_108 rfl ?_
  refine g_bipush X (v := 6) dX10_tells_110 (by decide) ?_
  refine g_icmp_ne X (tgt := 122) dX10_tells_112 (by decide) (fun c112 => ?_) (fun c112 => ?_)
  · have hf := ie c112 hf
    refine g_aload_n X 1 dX10_tells_122 rfl rfl ?_
    refine g_iload_n X 3 dX10_tells_123 rfl rfl ?_
    refine g_iload X 0 dX10_tells_124 rfl ?_
    obtain ⟨r126, m126, h126, hf⟩ := bi_i hf
    refine g_eVI X 63 9 [.int v2, .int s0] kV_X10_92 (c_X10_told h126) dX10_tells_126 rfl rfl (sgN (by decide)) rfl (by decide) rfl rfl ⟨(Nat.le_of_ble_eq_true rfl), (Nat.le_of_ble_eq_true rfl)⟩ ⟨rfl, rfl⟩ ⟨(Nat.zero_le _), (Nat.zero_le _)⟩ (Nat.le_of_ble_eq_true rfl) ?_
    refine g_pick [1, 2, 3, 0] (lv' := [(0, .ref (ad 63)), (1, .int v1), (2, .int v2), (4, .int s0)]) rfl ?_
    exact w_X10_tells_129 X hret v1 v2 s0 r126 m126 hf
  · have hf := it c112 hf
    refine g_aload_n X 1 dX10_tells_115 rfl rfl ?_
    refine g_getI X 63 9 4 dX10_tells_116 (sgN (by decide)) rfl (by decide) rfl iw_X10 (by decide) rfl q_fl_X10_103 ?_
    refine g_goto X (tgt := 129) dX10_tells_119 (by decide) ?_
    refine g_pick [1, 2, 3, 0] (lv' := [(0, .ref (ad 63)), (1, .int v1), (2, .int v2), (4, .int s0)]) rfl ?_
    exact w_X10_tells_129 X hret v1 v2 s0 (m0.1 63 4) m0 hf
set_option maxRecDepth 100000 in
set_option maxHeartbeats 4000000 in
theorem c_X10_tells {l : Launch} {G : GG} {b : Nat} {ad : Nat → Nat} {nt : Nat} {z : Nat → Nat} {p0 : Int32} {p1 : Int32} {p2 : Int32} {m0 : Mem} {r9 : Int32} {m9 : Mem} (hf : X10_tells p0 p1 p2 m0 = some (r9, m9)) : MtI l yX10_tells cX10_tells 9 (some .int) rmX10_tells G b (sg ad nt z) m0 [.ref (ad 63), .int p0, .int p1, .int p2] (pEI r9 (sg ad nt z) m9) := by
  refine mtI_of (by decide) (Nat.le_of_ble_eq_true rfl) .int rfl (fun Γ hG X hnm hr => ?_)
  have hret : ∀ (pc : Nat) (lv : List (Nat × Value)), decode cX10_tells pc = .ok (.ireturn, 1) → narrow .int (.int r9) = .int r9 → Go Γ b (sg ad nt z) 0 0 pc lv [.int r9] m9 := fun pc lv d hn => hr pc lv _ _ _ d ⟨rfl, rfl, rfl⟩ hn
  show Go Γ b (sg ad nt z) 0 0 0 [(0, .ref (ad 63)), (1, .int p0), (2, .int p1), (3, .int p2)] [] m0
  refine g_iload_n X 1 dX10_tells_0 rfl rfl ?_
  obtain ⟨r1, m1, h1, hf⟩ := bi_i hf
  refine g_eSI X [.int p0] kS_X10_413 (c_X10_isSheet h1) dX10_tells_1 rfl rfl ⟨(Nat.le_of_ble_eq_true rfl), (Nat.le_of_ble_eq_true rfl)⟩ ⟨rfl, rfl⟩ ⟨(Nat.zero_le _), (Nat.zero_le _)⟩ (Nat.le_of_ble_eq_true rfl) ?_
  refine g_if_eq X (tgt := 27) dX10_tells_4 (by decide) (fun c4 => ?_) (fun c4 => ?_)
  · have hf := it c4 hf
    refine g_bipush X (v := -2) dX10_tells_27 (by decide) ?_
    obtain ⟨rfl, rfl⟩ := lf2 hf
    exact hret 29 _ dX10_tells_29 rfl
  · have hf := ie c4 hf
    refine g_aload_n X 0 dX10_tells_7 rfl rfl ?_
    refine g_iload_n X 2 dX10_tells_8 rfl rfl ?_
    obtain ⟨r9, m9, h9, hf⟩ := bi_i hf
    refine g_eVI X 63 9 [.int p1] kV_X10_84 (c_X10_isOne h9) dX10_tells_9 rfl rfl (sgN (by decide)) rfl (by decide) rfl rfl ⟨(Nat.le_of_ble_eq_true rfl), (Nat.le_of_ble_eq_true rfl)⟩ ⟨rfl, rfl⟩ ⟨(Nat.zero_le _), (Nat.zero_le _)⟩ (Nat.le_of_ble_eq_true rfl) ?_
    refine g_if_eq X (tgt := 27) dX10_tells_12 (by decide) (fun c12 => ?_) (fun c12 => ?_)
    · have hf := it c12 hf
      refine g_bipush X (v := -2) dX10_tells_27 (by decide) ?_
      obtain ⟨rfl, rfl⟩ := lf2 hf
      exact hret 29 _ dX10_tells_29 rfl
    · have hf := ie c12 hf
      refine g_iload_n X 3 dX10_tells_15 rfl rfl ?_
      refine g_i2l X dX10_tells_16 ?_
      refine g_lconst X (v := 0) dX10_tells_17 (by decide) ?_
      refine g_ldc2 X dX10_tells_18 q_cl_X10_111 ?_
      obtain ⟨r21, m21, h21, hf⟩ := bi_i hf
      refine g_eSI X [.long p2.toInt64, .long (0 : Int64), .long (5 : Int64)] kS_X10_76 (c_X10_in h21) dX10_tells_21 rfl rfl ⟨(Nat.le_of_ble_eq_true rfl), (Nat.le_of_ble_eq_true rfl)⟩ ⟨rfl, rfl⟩ ⟨(Nat.zero_le _), (Nat.zero_le _)⟩ (Nat.le_of_ble_eq_true rfl) ?_
      refine g_if_ne X (tgt := 30) dX10_tells_24 (by decide) (fun c24 => ?_) (fun c24 => ?_)
      · have hf := ie c24 hf
        refine g_aload_n X 0 dX10_tells_30 rfl rfl ?_
        refine g_getr X (x := ad 75) 63 9 36 dX10_tells_31 (sgN (by decide)) rfl (by decide) rfl iw_X10 (by decide) rfl q_fl_X10_50 rfl ?_
        refine g_iload_n X 1 dX10_tells_34 rfl rfl ?_
        obtain ⟨h35, hf⟩ := grd hf
        refine g_zald X 75 (n := 4) dX10_tells_35 (sgN (by decide)) rfl rfl h35 ?_
        refine g_if_ne X (tgt := 42) dX10_tells_36 (by decide) (fun c36 => ?_) (fun c36 => ?_)
        · have hf := ie c36 hf
          refine g_aload_n X 0 dX10_tells_42 rfl rfl ?_
          refine g_getr X (x := ad 77) 63 9 38 dX10_tells_43 (sgN (by decide)) rfl (by decide) rfl iw_X10 (by decide) rfl q_fl_X10_57 rfl ?_
          refine g_iload_n X 1 dX10_tells_46 rfl rfl ?_
          obtain ⟨h47, hf⟩ := grd hf
          refine g_iald X 77 (n := 4) dX10_tells_47 (sgN (by decide)) rfl rfl h47 ?_
          refine g_bipush X (v := 8) dX10_tells_48 (by decide) ?_
          refine g_icmp_eq X (tgt := 56) dX10_tells_50 (by decide) (fun c50 => ?_) (fun c50 => ?_)
          · have hf := it c50 hf
            refine g_iload_n X 3 dX10_tells_56 rfl rfl ?_
            refine g_if_eq X (tgt := 65) dX10_tells_57 (by decide) (fun c57 => ?_) (fun c57 => ?_)
            · have hf := it c57 hf
              exact w_X10_tells_65 X hret p0 p1 p2 m21 hf
            · have hf := ie c57 hf
              refine g_iload_n X 3 dX10_tells_60 rfl rfl ?_
              refine g_iconst X (v := 5) dX10_tells_61 (by decide) ?_
              refine g_icmp_ne X (tgt := 84) dX10_tells_62 (by decide) (fun c62 => ?_) (fun c62 => ?_)
              · have hf := ie c62 hf
                refine g_iload_n X 3 dX10_tells_84 rfl rfl ?_
                refine g_iconst X (v := 1) dX10_tells_85 (by decide) ?_
                refine g_icmp_ne X (tgt := 93) dX10_tells_86 (by decide) (fun c86 => ?_) (fun c86 => ?_)
                · have hf := ie c86 hf
                  refine g_iload_n X 3 dX10_tells_93 rfl rfl ?_
                  refine g_iconst X (v := 4) dX10_tells_94 (by decide) ?_
                  refine g_icmp_ne X (tgt := 103) dX10_tells_95 (by decide) (fun c95 => ?_) (fun c95 => ?_)
                  · have hf := ie c95 hf
                    refine g_iload_n X 3 dX10_tells_103 rfl rfl ?_
                    refine g_iconst X (v := 1) dX10_tells_104 (by decide) ?_
                    refine g_isub X dX10_tells_105 ?_
                    refine g_pick [0, 1, 2] (lv' := [(0, .ref (ad 63)), (1, .int p0), (2, .int p1)]) rfl ?_
                    exact w_X10_tells_106 X hret p0 p1 (p2 - (1 : Int32)) m21 hf
                  · have hf := it c95 hf
                    refine g_bipush X (v := 6) dX10_tells_98 (by decide) ?_
                    refine g_goto X (tgt := 106) dX10_tells_100 (by decide) ?_
                    refine g_pick [0, 1, 2] (lv' := [(0, .ref (ad 63)), (1, .int p0), (2, .int p1)]) rfl ?_
                    exact w_X10_tells_106 X hret p0 p1 (6 : Int32) m21 hf
                · have hf := it c86 hf
                  refine g_iconst X (v := 5) dX10_tells_89 (by decide) ?_
                  refine g_goto X (tgt := 106) dX10_tells_90 (by decide) ?_
                  refine g_pick [0, 1, 2] (lv' := [(0, .ref (ad 63)), (1, .int p0), (2, .int p1)]) rfl ?_
                  exact w_X10_tells_106 X hret p0 p1 (5 : Int32) m21 hf
              · have hf := it c62 hf
                exact w_X10_tells_65 X hret p0 p1 p2 m21 hf
          · have hf := ie c50 hf
            refine g_bipush X (v := -2) dX10_tells_53 (by decide) ?_
            obtain ⟨rfl, rfl⟩ := lf2 hf
            exact hret 55 _ dX10_tells_55 rfl
        · have hf := it c36 hf
          refine g_bipush X (v := -11) dX10_tells_39 (by decide) ?_
          obtain ⟨rfl, rfl⟩ := lf2 hf
          exact hret 41 _ dX10_tells_41 rfl
      · have hf := it c24 hf
        refine g_bipush X (v := -2) dX10_tells_27 (by decide) ?_
        obtain ⟨rfl, rfl⟩ := lf2 hf
        exact hret 29 _ dX10_tells_29 rfl

def X10_sheet_77 : Nat → Int32 → Int32 → Int32 → Int32 → Mem → Option (Int32 × Mem)
  | 0, _, _, _, _, _ => none
  | n + 1, v1, v2, v3, v4, m0 =>
    if v3 ≤ v4 then
      some ((1 : Int32), m0)
    else
      if v2 < 0 then
        some ((1 : Int32), m0)
      else
        if inn (((40 : Int32) * v1) + v4) 160 then
        X10_sheet_77 n v1 v2 v3 (v4 + (1 : Int32)) (pI m0 78 (((40 : Int32) * v1) + v4).toNatClampNeg (0 : Int32))
        else none
def X10_sheet_59 (v1 : Int32) (v2 : Int32) (v3 : Int32) (s0 : Int32) (s1 : Int32) (m0 : Mem) : Option (Int32 × Mem) :=
  if inn s1 4 then
  if s0 = 0 ∨ s0 = 1 then
  if inn v1 4 then
  if inn v1 4 then
  X10_sheet_77 10000 v1 v2 v3 (0 : Int32) (pI (pI (pI m0 75 s1.toNatClampNeg s0) 76 v1.toNatClampNeg v2) 77 v1.toNatClampNeg v3)
  else none
  else none
  else none
  else none
def X10_sheet_45 (v1 : Int32) (v2 : Int32) (v3 : Int32) (m0 : Mem) : Option (Int32 × Mem) :=
  if v2 < 0 then
    X10_sheet_59 v1 v2 v3 (0 : Int32) v1 m0
  else
    X10_sheet_59 v1 v2 v3 (1 : Int32) v1 m0
def X10_sheet_34 (v1 : Int32) (v2 : Int32) (v3 : Int32) (m0 : Mem) : Option (Int32 × Mem) :=
  if v2 < 0 then
    X10_sheet_45 v1 v2 v3 m0
  else
    if 0 ≤ v3 then
      X10_sheet_45 v1 v2 v3 m0
    else
      some ((-14 : Int32), m0)
def X10_sheet (p0 : Int32) (p1 : Int32) (p2 : Int32) (m0 : Mem) : Option (Int32 × Mem) :=
  bi (X10_isSheet p0 m0) fun r1 m1 =>
  if r1 = 0 then
    some ((-2 : Int32), m1)
  else
    bi (X10_in p1.toInt64 (-1 : Int64) (2 : Int64) m1) fun r15 m15 =>
    if r15 = 0 then
      some ((-2 : Int32), m15)
    else
      if p1 < 0 then
        X10_sheet_34 p0 p1 p2 m15
      else
        if p2 ≤ (40 : Int32) then
          X10_sheet_34 p0 p1 p2 m15
        else
          some ((-2 : Int32), m15)
abbrev rmX10_sheet : Room := { frames := 2, cells := 0, slots := 0, locals := 45 }
set_option maxRecDepth 100000 in
set_option maxHeartbeats 4000000 in
theorem w_X10_sheet_77 {Γ : Ga} {b : Nat} {ad : Nat → Nat} {nt : Nat} {z : Nat → Nat} {r9 : Int32} {m9 : Mem} (X : Cx Γ b cX10_sheet 5 RX10 (some .int) rmX10_sheet) (hret : ∀ (pc : Nat) (lv : List (Nat × Value)), decode cX10_sheet pc = .ok (.ireturn, 1) → narrow .int (.int r9) = .int r9 → Go Γ b (sg ad nt z) 0 0 pc lv [.int r9] m9) : ∀ (n : Nat) (v1 : Int32) (v2 : Int32) (v3 : Int32) (v4 : Int32) (m0 : Mem), X10_sheet_77 n v1 v2 v3 v4 m0 = some (r9, m9) → Go Γ b (sg ad nt z) 0 0 77 [(0, .ref (ad 63)), (1, .int v1), (2, .int v2), (3, .int v3), (4, .int v4)] [] m0 := by
  intro n
  induction n with
  | zero =>
    intro v1 v2 v3 v4 m0 hf
    cases hf
  | succ n ih =>
    intro v1 v2 v3 v4 m0 hf
    refine g_iload X 4 dX10_sheet_77 rfl ?_
    refine g_iload_n X 3 dX10_sheet_79 rfl rfl ?_
    refine g_icmp_ge X (tgt := 106) dX10_sheet_80 (by decide) (fun c80 => ?_) (fun c80 => ?_)
    · have hf := it c80 hf
      refine g_iconst X (v := 1) dX10_sheet_106 (by decide) ?_
      obtain ⟨rfl, rfl⟩ := lf2 hf
      exact hret 107 _ dX10_sheet_107 rfl
    · have hf := ie c80 hf
      refine g_iload_n X 2 dX10_sheet_83 rfl rfl ?_
      refine g_if_lt X (tgt := 106) dX10_sheet_84 (by decide) (fun c84 => ?_) (fun c84 => ?_)
      · have hf := it c84 hf
        refine g_iconst X (v := 1) dX10_sheet_106 (by decide) ?_
        obtain ⟨rfl, rfl⟩ := lf2 hf
        exact hret 107 _ dX10_sheet_107 rfl
      · have hf := ie c84 hf
        refine g_aload_n X 0 dX10_sheet_87 rfl rfl ?_
        refine g_getr X (x := ad 78) 63 9 39 dX10_sheet_88 (sgN (by decide)) rfl (by decide) rfl iw_X10 (by decide) rfl q_fl_X10_60 rfl ?_
        refine g_bipush X (v := 40) dX10_sheet_91 (by decide) ?_
        refine g_iload_n X 1 dX10_sheet_93 rfl rfl ?_
        refine g_imul X dX10_sheet_94 ?_
        refine g_iload X 4 dX10_sheet_95 rfl ?_
        refine g_iadd X dX10_sheet_97 ?_
        refine g_iconst X (v := 0) dX10_sheet_98 (by decide) ?_
        obtain ⟨h99, hf⟩ := grd hf
        refine g_iast X 78 (n := 160) dX10_sheet_99 (sgN (by decide)) rfl rfl h99 ?_
        refine g_iinc X 4 (v := v4 + (1 : Int32)) (lv' := [(4, .int (v4 + (1 : Int32))), (0, .ref (ad 63)), (1, .int v1), (2, .int v2), (3, .int v3)]) dX10_sheet_100 rfl rfl (by decide) rfl ?_
        refine g_goto X (tgt := 77) dX10_sheet_103 (by decide) ?_
        refine g_pick [1, 2, 3, 4, 0] (lv' := [(0, .ref (ad 63)), (1, .int v1), (2, .int v2), (3, .int v3), (4, .int (v4 + (1 : Int32)))]) rfl ?_
        exact ih v1 v2 v3 (v4 + (1 : Int32)) (pI m0 78 (((40 : Int32) * v1) + v4).toNatClampNeg (0 : Int32)) hf
set_option maxRecDepth 100000 in
set_option maxHeartbeats 4000000 in
theorem w_X10_sheet_59 {Γ : Ga} {b : Nat} {ad : Nat → Nat} {nt : Nat} {z : Nat → Nat} {r9 : Int32} {m9 : Mem} (X : Cx Γ b cX10_sheet 5 RX10 (some .int) rmX10_sheet) (hret : ∀ (pc : Nat) (lv : List (Nat × Value)), decode cX10_sheet pc = .ok (.ireturn, 1) → narrow .int (.int r9) = .int r9 → Go Γ b (sg ad nt z) 0 0 pc lv [.int r9] m9) (v1 : Int32) (v2 : Int32) (v3 : Int32) (s0 : Int32) (s1 : Int32) (m0 : Mem) (hf : X10_sheet_59 v1 v2 v3 s0 s1 m0 = some (r9, m9)) : Go Γ b (sg ad nt z) 0 0 59 [(0, .ref (ad 63)), (1, .int v1), (2, .int v2), (3, .int v3)] [.int s0, .int s1, .ref (ad 75)] m0 := by
  obtain ⟨h59, hf⟩ := grd hf
  obtain ⟨z59, hf⟩ := grd hf
  refine g_zast X 75 (n := 4) dX10_sheet_59 (sgN (by decide)) rfl rfl h59 z59 ?_
  refine g_aload_n X 0 dX10_sheet_60 rfl rfl ?_
  refine g_getr X (x := ad 76) 63 9 37 dX10_sheet_61 (sgN (by decide)) rfl (by decide) rfl iw_X10 (by decide) rfl q_fl_X10_54 rfl ?_
  refine g_iload_n X 1 dX10_sheet_64 rfl rfl ?_
  refine g_iload_n X 2 dX10_sheet_65 rfl rfl ?_
  obtain ⟨h66, hf⟩ := grd hf
  refine g_iast X 76 (n := 4) dX10_sheet_66 (sgN (by decide)) rfl rfl h66 ?_
  refine g_aload_n X 0 dX10_sheet_67 rfl rfl ?_
  refine g_getr X (x := ad 77) 63 9 38 dX10_sheet_68 (sgN (by decide)) rfl (by decide) rfl iw_X10 (by decide) rfl q_fl_X10_57 rfl ?_
  refine g_iload_n X 1 dX10_sheet_71 rfl rfl ?_
  refine g_iload_n X 3 dX10_sheet_72 rfl rfl ?_
  obtain ⟨h73, hf⟩ := grd hf
  refine g_iast X 77 (n := 4) dX10_sheet_73 (sgN (by decide)) rfl rfl h73 ?_
  refine g_iconst X (v := 0) dX10_sheet_74 (by decide) ?_
  refine g_istore X (lv' := [(4, .int (0 : Int32)), (0, .ref (ad 63)), (1, .int v1), (2, .int v2), (3, .int v3)]) dX10_sheet_75 (by decide) rfl ?_
  refine g_pick [1, 2, 3, 4, 0] (lv' := [(0, .ref (ad 63)), (1, .int v1), (2, .int v2), (3, .int v3), (4, .int (0 : Int32))]) rfl ?_
  exact w_X10_sheet_77 X hret 10000 v1 v2 v3 (0 : Int32) (pI (pI (pI m0 75 s1.toNatClampNeg s0) 76 v1.toNatClampNeg v2) 77 v1.toNatClampNeg v3) hf
set_option maxRecDepth 100000 in
set_option maxHeartbeats 4000000 in
theorem w_X10_sheet_45 {Γ : Ga} {b : Nat} {ad : Nat → Nat} {nt : Nat} {z : Nat → Nat} {r9 : Int32} {m9 : Mem} (X : Cx Γ b cX10_sheet 5 RX10 (some .int) rmX10_sheet) (hret : ∀ (pc : Nat) (lv : List (Nat × Value)), decode cX10_sheet pc = .ok (.ireturn, 1) → narrow .int (.int r9) = .int r9 → Go Γ b (sg ad nt z) 0 0 pc lv [.int r9] m9) (v1 : Int32) (v2 : Int32) (v3 : Int32) (m0 : Mem) (hf : X10_sheet_45 v1 v2 v3 m0 = some (r9, m9)) : Go Γ b (sg ad nt z) 0 0 45 [(0, .ref (ad 63)), (1, .int v1), (2, .int v2), (3, .int v3)] [] m0 := by
  refine g_aload_n X 0 dX10_sheet_45 rfl rfl ?_
  refine g_getr X (x := ad 75) 63 9 36 dX10_sheet_46 (sgN (by decide)) rfl (by decide) rfl iw_X10 (by decide) rfl q_fl_X10_50 rfl ?_
  refine g_iload_n X 1 dX10_sheet_49 rfl rfl ?_
  refine g_iload_n X 2 dX10_sheet_50 rfl rfl ?_
  refine g_if_lt X (tgt := 58) dX10_sheet_51 (by decide) (fun c51 => ?_) (fun c51 => ?_)
  · have hf := it c51 hf
    refine g_iconst X (v := 0) dX10_sheet_58 (by decide) ?_
    exact w_X10_sheet_59 X hret v1 v2 v3 (0 : Int32) v1 m0 hf
  · have hf := ie c51 hf
    refine g_iconst X (v := 1) dX10_sheet_54 (by decide) ?_
    refine g_goto X (tgt := 59) dX10_sheet_55 (by decide) ?_
    exact w_X10_sheet_59 X hret v1 v2 v3 (1 : Int32) v1 m0 hf
set_option maxRecDepth 100000 in
set_option maxHeartbeats 4000000 in
theorem w_X10_sheet_34 {Γ : Ga} {b : Nat} {ad : Nat → Nat} {nt : Nat} {z : Nat → Nat} {r9 : Int32} {m9 : Mem} (X : Cx Γ b cX10_sheet 5 RX10 (some .int) rmX10_sheet) (hret : ∀ (pc : Nat) (lv : List (Nat × Value)), decode cX10_sheet pc = .ok (.ireturn, 1) → narrow .int (.int r9) = .int r9 → Go Γ b (sg ad nt z) 0 0 pc lv [.int r9] m9) (v1 : Int32) (v2 : Int32) (v3 : Int32) (m0 : Mem) (hf : X10_sheet_34 v1 v2 v3 m0 = some (r9, m9)) : Go Γ b (sg ad nt z) 0 0 34 [(0, .ref (ad 63)), (1, .int v1), (2, .int v2), (3, .int v3)] [] m0 := by
  refine g_iload_n X 2 dX10_sheet_34 rfl rfl ?_
  refine g_if_lt X (tgt := 45) dX10_sheet_35 (by decide) (fun c35 => ?_) (fun c35 => ?_)
  · have hf := it c35 hf
    exact w_X10_sheet_45 X hret v1 v2 v3 m0 hf
  · have hf := ie c35 hf
    refine g_iload_n X 3 dX10_sheet_38 rfl rfl ?_
    refine g_if_ge X (tgt := 45) dX10_sheet_39 (by decide) (fun c39 => ?_) (fun c39 => ?_)
    · have hf := it c39 hf
      exact w_X10_sheet_45 X hret v1 v2 v3 m0 hf
    · have hf := ie c39 hf
      refine g_bipush X (v := -14) dX10_sheet_42 (by decide) ?_
      obtain ⟨rfl, rfl⟩ := lf2 hf
      exact hret 44 _ dX10_sheet_44 rfl
set_option maxRecDepth 100000 in
set_option maxHeartbeats 4000000 in
theorem c_X10_sheet {l : Launch} {G : GG} {b : Nat} {ad : Nat → Nat} {nt : Nat} {z : Nat → Nat} {p0 : Int32} {p1 : Int32} {p2 : Int32} {m0 : Mem} {r9 : Int32} {m9 : Mem} (hf : X10_sheet p0 p1 p2 m0 = some (r9, m9)) : MtI l yX10_sheet cX10_sheet 5 (some .int) rmX10_sheet G b (sg ad nt z) m0 [.ref (ad 63), .int p0, .int p1, .int p2] (pEI r9 (sg ad nt z) m9) := by
  refine mtI_of (by decide) (Nat.le_of_ble_eq_true rfl) .int rfl (fun Γ hG X hnm hr => ?_)
  have hret : ∀ (pc : Nat) (lv : List (Nat × Value)), decode cX10_sheet pc = .ok (.ireturn, 1) → narrow .int (.int r9) = .int r9 → Go Γ b (sg ad nt z) 0 0 pc lv [.int r9] m9 := fun pc lv d hn => hr pc lv _ _ _ d ⟨rfl, rfl, rfl⟩ hn
  show Go Γ b (sg ad nt z) 0 0 0 [(0, .ref (ad 63)), (1, .int p0), (2, .int p1), (3, .int p2)] [] m0
  refine g_iload_n X 1 dX10_sheet_0 rfl rfl ?_
  obtain ⟨r1, m1, h1, hf⟩ := bi_i hf
  refine g_eSI X [.int p0] kS_X10_413 (c_X10_isSheet h1) dX10_sheet_1 rfl rfl ⟨(Nat.le_of_ble_eq_true rfl), (Nat.le_of_ble_eq_true rfl)⟩ ⟨rfl, rfl⟩ ⟨(Nat.zero_le _), (Nat.zero_le _)⟩ (Nat.le_of_ble_eq_true rfl) ?_
  refine g_if_eq X (tgt := 31) dX10_sheet_4 (by decide) (fun c4 => ?_) (fun c4 => ?_)
  · have hf := it c4 hf
    refine g_bipush X (v := -2) dX10_sheet_31 (by decide) ?_
    obtain ⟨rfl, rfl⟩ := lf2 hf
    exact hret 33 _ dX10_sheet_33 rfl
  · have hf := ie c4 hf
    refine g_iload_n X 2 dX10_sheet_7 rfl rfl ?_
    refine g_i2l X dX10_sheet_8 ?_
    refine g_ldc2 X dX10_sheet_9 q_cl_X10_434 ?_
    refine g_ldc2 X dX10_sheet_12 q_cl_X10_436 ?_
    obtain ⟨r15, m15, h15, hf⟩ := bi_i hf
    refine g_eSI X [.long p1.toInt64, .long (-1 : Int64), .long (2 : Int64)] kS_X10_76 (c_X10_in h15) dX10_sheet_15 rfl rfl ⟨(Nat.le_of_ble_eq_true rfl), (Nat.le_of_ble_eq_true rfl)⟩ ⟨rfl, rfl⟩ ⟨(Nat.zero_le _), (Nat.zero_le _)⟩ (Nat.le_of_ble_eq_true rfl) ?_
    refine g_if_eq X (tgt := 31) dX10_sheet_18 (by decide) (fun c18 => ?_) (fun c18 => ?_)
    · have hf := it c18 hf
      refine g_bipush X (v := -2) dX10_sheet_31 (by decide) ?_
      obtain ⟨rfl, rfl⟩ := lf2 hf
      exact hret 33 _ dX10_sheet_33 rfl
    · have hf := ie c18 hf
      refine g_iload_n X 2 dX10_sheet_21 rfl rfl ?_
      refine g_if_lt X (tgt := 34) dX10_sheet_22 (by decide) (fun c22 => ?_) (fun c22 => ?_)
      · have hf := it c22 hf
        exact w_X10_sheet_34 X hret p0 p1 p2 m15 hf
      · have hf := ie c22 hf
        refine g_iload_n X 3 dX10_sheet_25 rfl rfl ?_
        refine g_bipush X (v := 40) dX10_sheet_26 (by decide) ?_
        refine g_icmp_le X (tgt := 34) dX10_sheet_28 (by decide) (fun c28 => ?_) (fun c28 => ?_)
        · have hf := it c28 hf
          exact w_X10_sheet_34 X hret p0 p1 p2 m15 hf
        · have hf := ie c28 hf
          refine g_bipush X (v := -2) dX10_sheet_31 (by decide) ?_
          obtain ⟨rfl, rfl⟩ := lf2 hf
          exact hret 33 _ dX10_sheet_33 rfl

theorem kV_X10_419 : wcV RX10 419 RX10 yX10_sheet cX10_sheet 5 (some .int) 3 := ⟨q_ml_X10_419, q_im_yX10_sheet, q_se_yX10_sheet, q_in_X10, q_co_yX10_sheet, by decide +kernel⟩

def X10_film_32 : Nat → Int32 → Int32 → Int32 → Int32 → Mem → Option (Int32 × Mem)
  | 0, _, _, _, _, _ => none
  | n + 1, v1, v2, v3, v4, m0 =>
    if (8 : Int32) ≤ v4 then
      some (v3, m0)
    else
      bi (X10_worthOf v2 v4 m0) fun r54 m54 =>
      if inn (((40 : Int32) * v1) + v4) 160 then
      if inn (((40 : Int32) * v1) + v4) 160 then
      X10_film_32 n v1 v2 (v3 + ((pI m54 78 (((40 : Int32) * v1) + v4).toNatClampNeg r54).1 78 (((40 : Int32) * v1) + v4).toNatClampNeg)) (v4 + (1 : Int32)) (pI m54 78 (((40 : Int32) * v1) + v4).toNatClampNeg r54)
      else none
      else none
def X10_film (p0 : Int32) (p1 : Int32) (m0 : Mem) : Option (Int32 × Mem) :=
  bi (X10_isSheet p0 m0) fun r1 m1 =>
  if r1 = 0 then
    some ((-2 : Int32), m1)
  else
    bi (X10_isOne p1 m1) fun r9 m9 =>
    if r9 = 0 then
      some ((-2 : Int32), m9)
    else
      bi (X10_sheet p0 (1 : Int32) (8 : Int32) m9) fun r23 m23 =>
      X10_film_32 10000 p0 p1 (0 : Int32) (0 : Int32) m23
abbrev rmX10_film : Room := { frames := 44, cells := 0, slots := 0, locals := 979 }
set_option maxRecDepth 100000 in
set_option maxHeartbeats 4000000 in
theorem w_X10_film_32 {Γ : Ga} {b : Nat} {ad : Nat → Nat} {nt : Nat} {z : Nat → Nat} {r9 : Int32} {m9 : Mem} (X : Cx Γ b cX10_film 5 RX10 (some .int) rmX10_film) (hret : ∀ (pc : Nat) (lv : List (Nat × Value)), decode cX10_film pc = .ok (.ireturn, 1) → narrow .int (.int r9) = .int r9 → Go Γ b (sg ad nt z) 0 0 pc lv [.int r9] m9) : ∀ (n : Nat) (v1 : Int32) (v2 : Int32) (v3 : Int32) (v4 : Int32) (m0 : Mem), X10_film_32 n v1 v2 v3 v4 m0 = some (r9, m9) → Go Γ b (sg ad nt z) 0 0 32 [(0, .ref (ad 63)), (1, .int v1), (2, .int v2), (3, .int v3), (4, .int v4)] [] m0 := by
  intro n
  induction n with
  | zero =>
    intro v1 v2 v3 v4 m0 hf
    cases hf
  | succ n ih =>
    intro v1 v2 v3 v4 m0 hf
    refine g_iload X 4 dX10_film_32 rfl ?_
    refine g_bipush X (v := 8) dX10_film_34 (by decide) ?_
    refine g_icmp_ge X (tgt := 79) dX10_film_36 (by decide) (fun c36 => ?_) (fun c36 => ?_)
    · have hf := it c36 hf
      refine g_iload_n X 3 dX10_film_79 rfl rfl ?_
      obtain ⟨rfl, rfl⟩ := lf2 hf
      exact hret 80 _ dX10_film_80 rfl
    · have hf := ie c36 hf
      refine g_aload_n X 0 dX10_film_39 rfl rfl ?_
      refine g_getr X (x := ad 78) 63 9 39 dX10_film_40 (sgN (by decide)) rfl (by decide) rfl iw_X10 (by decide) rfl q_fl_X10_60 rfl ?_
      refine g_bipush X (v := 40) dX10_film_43 (by decide) ?_
      refine g_iload_n X 1 dX10_film_45 rfl rfl ?_
      refine g_imul X dX10_film_46 ?_
      refine g_iload X 4 dX10_film_47 rfl ?_
      refine g_iadd X dX10_film_49 ?_
      refine g_aload_n X 0 dX10_film_50 rfl rfl ?_
      refine g_iload_n X 2 dX10_film_51 rfl rfl ?_
      refine g_iload X 4 dX10_film_52 rfl ?_
      obtain ⟨r54, m54, h54, hf⟩ := bi_i hf
      refine g_eVI X 63 9 [.int v2, .int v4] kV_X10_131 (c_X10_worthOf h54) dX10_film_54 rfl rfl (sgN (by decide)) rfl (by decide) rfl rfl ⟨(Nat.le_of_ble_eq_true rfl), (Nat.le_of_ble_eq_true rfl)⟩ ⟨rfl, rfl⟩ ⟨(Nat.zero_le _), (Nat.zero_le _)⟩ (Nat.le_of_ble_eq_true rfl) ?_
      obtain ⟨h57, hf⟩ := grd hf
      refine g_iast X 78 (n := 160) dX10_film_57 (sgN (by decide)) rfl rfl h57 ?_
      refine g_iload_n X 3 dX10_film_58 rfl rfl ?_
      refine g_aload_n X 0 dX10_film_59 rfl rfl ?_
      refine g_getr X (x := ad 78) 63 9 39 dX10_film_60 (sgN (by decide)) rfl (by decide) rfl iw_X10 (by decide) rfl q_fl_X10_60 rfl ?_
      refine g_bipush X (v := 40) dX10_film_63 (by decide) ?_
      refine g_iload_n X 1 dX10_film_65 rfl rfl ?_
      refine g_imul X dX10_film_66 ?_
      refine g_iload X 4 dX10_film_67 rfl ?_
      refine g_iadd X dX10_film_69 ?_
      obtain ⟨h70, hf⟩ := grd hf
      refine g_iald X 78 (n := 160) dX10_film_70 (sgN (by decide)) rfl rfl h70 ?_
      refine g_iadd X dX10_film_71 ?_
      refine g_istore_n X (lv' := [(3, .int (v3 + ((pI m54 78 (((40 : Int32) * v1) + v4).toNatClampNeg r54).1 78 (((40 : Int32) * v1) + v4).toNatClampNeg))), (0, .ref (ad 63)), (1, .int v1), (2, .int v2), (4, .int v4)]) dX10_film_72 rfl (by decide) rfl ?_
      refine g_iinc X 4 (v := v4 + (1 : Int32)) (lv' := [(4, .int (v4 + (1 : Int32))), (3, .int (v3 + ((pI m54 78 (((40 : Int32) * v1) + v4).toNatClampNeg r54).1 78 (((40 : Int32) * v1) + v4).toNatClampNeg))), (0, .ref (ad 63)), (1, .int v1), (2, .int v2)]) dX10_film_73 rfl rfl (by decide) rfl ?_
      refine g_goto X (tgt := 32) dX10_film_76 (by decide) ?_
      refine g_pick [2, 3, 4, 1, 0] (lv' := [(0, .ref (ad 63)), (1, .int v1), (2, .int v2), (3, .int (v3 + ((pI m54 78 (((40 : Int32) * v1) + v4).toNatClampNeg r54).1 78 (((40 : Int32) * v1) + v4).toNatClampNeg))), (4, .int (v4 + (1 : Int32)))]) rfl ?_
      exact ih v1 v2 (v3 + ((pI m54 78 (((40 : Int32) * v1) + v4).toNatClampNeg r54).1 78 (((40 : Int32) * v1) + v4).toNatClampNeg)) (v4 + (1 : Int32)) (pI m54 78 (((40 : Int32) * v1) + v4).toNatClampNeg r54) hf
set_option maxRecDepth 100000 in
set_option maxHeartbeats 4000000 in
theorem c_X10_film {l : Launch} {G : GG} {b : Nat} {ad : Nat → Nat} {nt : Nat} {z : Nat → Nat} {p0 : Int32} {p1 : Int32} {m0 : Mem} {r9 : Int32} {m9 : Mem} (hf : X10_film p0 p1 m0 = some (r9, m9)) : MtI l yX10_film cX10_film 5 (some .int) rmX10_film G b (sg ad nt z) m0 [.ref (ad 63), .int p0, .int p1] (pEI r9 (sg ad nt z) m9) := by
  refine mtI_of (by decide) (Nat.le_of_ble_eq_true rfl) .int rfl (fun Γ hG X hnm hr => ?_)
  have hret : ∀ (pc : Nat) (lv : List (Nat × Value)), decode cX10_film pc = .ok (.ireturn, 1) → narrow .int (.int r9) = .int r9 → Go Γ b (sg ad nt z) 0 0 pc lv [.int r9] m9 := fun pc lv d hn => hr pc lv _ _ _ d ⟨rfl, rfl, rfl⟩ hn
  show Go Γ b (sg ad nt z) 0 0 0 [(0, .ref (ad 63)), (1, .int p0), (2, .int p1)] [] m0
  refine g_iload_n X 1 dX10_film_0 rfl rfl ?_
  obtain ⟨r1, m1, h1, hf⟩ := bi_i hf
  refine g_eSI X [.int p0] kS_X10_413 (c_X10_isSheet h1) dX10_film_1 rfl rfl ⟨(Nat.le_of_ble_eq_true rfl), (Nat.le_of_ble_eq_true rfl)⟩ ⟨rfl, rfl⟩ ⟨(Nat.zero_le _), (Nat.zero_le _)⟩ (Nat.le_of_ble_eq_true rfl) ?_
  refine g_if_eq X (tgt := 15) dX10_film_4 (by decide) (fun c4 => ?_) (fun c4 => ?_)
  · have hf := it c4 hf
    refine g_bipush X (v := -2) dX10_film_15 (by decide) ?_
    obtain ⟨rfl, rfl⟩ := lf2 hf
    exact hret 17 _ dX10_film_17 rfl
  · have hf := ie c4 hf
    refine g_aload_n X 0 dX10_film_7 rfl rfl ?_
    refine g_iload_n X 2 dX10_film_8 rfl rfl ?_
    obtain ⟨r9, m9, h9, hf⟩ := bi_i hf
    refine g_eVI X 63 9 [.int p1] kV_X10_84 (c_X10_isOne h9) dX10_film_9 rfl rfl (sgN (by decide)) rfl (by decide) rfl rfl ⟨(Nat.le_of_ble_eq_true rfl), (Nat.le_of_ble_eq_true rfl)⟩ ⟨rfl, rfl⟩ ⟨(Nat.zero_le _), (Nat.zero_le _)⟩ (Nat.le_of_ble_eq_true rfl) ?_
    refine g_if_ne X (tgt := 18) dX10_film_12 (by decide) (fun c12 => ?_) (fun c12 => ?_)
    · have hf := ie c12 hf
      refine g_aload_n X 0 dX10_film_18 rfl rfl ?_
      refine g_iload_n X 1 dX10_film_19 rfl rfl ?_
      refine g_iconst X (v := 1) dX10_film_20 (by decide) ?_
      refine g_bipush X (v := 8) dX10_film_21 (by decide) ?_
      obtain ⟨r23, m23, h23, hf⟩ := bi_i hf
      refine g_eVI X 63 9 [.int p0, .int (1 : Int32), .int (8 : Int32)] kV_X10_419 (c_X10_sheet h23) dX10_film_23 rfl rfl (sgN (by decide)) rfl (by decide) rfl rfl ⟨(Nat.le_of_ble_eq_true rfl), (Nat.le_of_ble_eq_true rfl)⟩ ⟨rfl, rfl⟩ ⟨(Nat.zero_le _), (Nat.zero_le _)⟩ (Nat.le_of_ble_eq_true rfl) ?_
      refine g_pop X dX10_film_26 rfl ?_
      refine g_iconst X (v := 0) dX10_film_27 (by decide) ?_
      refine g_istore_n X (lv' := [(3, .int (0 : Int32)), (0, .ref (ad 63)), (1, .int p0), (2, .int p1)]) dX10_film_28 rfl (by decide) rfl ?_
      refine g_iconst X (v := 0) dX10_film_29 (by decide) ?_
      refine g_istore X (lv' := [(4, .int (0 : Int32)), (3, .int (0 : Int32)), (0, .ref (ad 63)), (1, .int p0), (2, .int p1)]) dX10_film_30 (by decide) rfl ?_
      refine g_pick [2, 3, 4, 1, 0] (lv' := [(0, .ref (ad 63)), (1, .int p0), (2, .int p1), (3, .int (0 : Int32)), (4, .int (0 : Int32))]) rfl ?_
      exact w_X10_film_32 X hret 10000 p0 p1 (0 : Int32) (0 : Int32) m23 hf
    · have hf := it c12 hf
      refine g_bipush X (v := -2) dX10_film_15 (by decide) ?_
      obtain ⟨rfl, rfl⟩ := lf2 hf
      exact hret 17 _ dX10_film_17 rfl

def X10_knownDrawn_52 : Nat → Int32 → Mem → Option (Int32 × Mem)
  | 0, _, _ => none
  | n + 1, v3, m0 =>
    if (5 : Int32) ≤ v3 then
      bi (X10_knownAll m0) fun r70 m70 =>
      bv (X10_laysBack m70) fun m75 =>
      some (r70, m75)
    else
      bi (X10_passes (-1 : Int32) m0) fun r59 m59 =>
      X10_knownDrawn_52 n (v3 + (1 : Int32)) m59
def X10_knownDrawn_8 : Nat → Int32 → Int32 → Mem → Option (Int32 × Mem)
  | 0, _, _, _ => none
  | n + 1, v2, v3, m0 =>
    if (m0.1 63 11) ≤ v3 then
      X10_knownDrawn_52 10000 (0 : Int32) m0
    else
      if inn (((5 : Int32) * v3) + (2 : Int32)) 30 then
      X10_knownDrawn_8 n ((v2 * (1103515245 : Int32)) + (12345 : Int32)) (v3 + (1 : Int32)) (pI m0 69 (((5 : Int32) * v3) + (2 : Int32)).toNatClampNeg (((((v2 * (1103515245 : Int32)) + (12345 : Int32)).toUInt32 >>> ((9 : Int32).toUInt32 &&& Int32.toUInt32 31)).toInt32) - ((((v2 * (1103515245 : Int32)) + (12345 : Int32)).toUInt32 >>> ((9 : Int32).toUInt32 &&& Int32.toUInt32 31)).toInt32) / (256 : Int32) * (256 : Int32)))
      else none
def X10_knownDrawn (p0 : Int32) (m0 : Mem) : Option (Int32 × Mem) :=
  bv (X10_laysAside m0) fun m1 =>
  X10_knownDrawn_8 10000 p0 (0 : Int32) m1
abbrev rmX10_knownDrawn : Room := { frames := 47, cells := 0, slots := 0, locals := 1054 }
set_option maxRecDepth 100000 in
set_option maxHeartbeats 4000000 in
theorem w_X10_knownDrawn_52 {Γ : Ga} {b : Nat} {ad : Nat → Nat} {nt : Nat} {z : Nat → Nat} {r9 : Int32} {m9 : Mem} (X : Cx Γ b cX10_knownDrawn 4 RX10 (some .int) rmX10_knownDrawn) (hret : ∀ (pc : Nat) (lv : List (Nat × Value)), decode cX10_knownDrawn pc = .ok (.ireturn, 1) → narrow .int (.int r9) = .int r9 → Go Γ b (sg ad nt z) 0 0 pc lv [.int r9] m9) : ∀ (n : Nat) (v3 : Int32) (m0 : Mem), X10_knownDrawn_52 n v3 m0 = some (r9, m9) → Go Γ b (sg ad nt z) 0 0 52 [(0, .ref (ad 63)), (3, .int v3)] [] m0 := by
  intro n
  induction n with
  | zero =>
    intro v3 m0 hf
    cases hf
  | succ n ih =>
    intro v3 m0 hf
    refine g_iload_n X 1 dX10_knownDrawn_52 rfl rfl ?_
    refine g_iconst X (v := 5) dX10_knownDrawn_53 (by decide) ?_
    refine g_icmp_ge X (tgt := 69) dX10_knownDrawn_54 (by decide) (fun c54 => ?_) (fun c54 => ?_)
    · have hf := it c54 hf
      refine g_aload_n X 0 dX10_knownDrawn_69 rfl rfl ?_
      obtain ⟨r70, m70, h70, hf⟩ := bi_i hf
      refine g_eVI X 63 9 [] kV_X10_396 (c_X10_knownAll h70) dX10_knownDrawn_70 rfl rfl (sgN (by decide)) rfl (by decide) rfl rfl ⟨(Nat.le_of_ble_eq_true rfl), (Nat.le_of_ble_eq_true rfl)⟩ ⟨rfl, rfl⟩ ⟨(Nat.zero_le _), (Nat.zero_le _)⟩ (Nat.le_of_ble_eq_true rfl) ?_
      refine g_istore_n X (lv' := [(3, .int r70), (0, .ref (ad 63))]) dX10_knownDrawn_73 rfl (by decide) rfl ?_
      refine g_aload_n X 1 dX10_knownDrawn_74 rfl rfl ?_
      obtain ⟨m75, h75, hf⟩ := bv_i hf
      refine g_eVV X 63 9 [] kV_X10_399 (c_X10_laysBack h75) dX10_knownDrawn_75 rfl rfl (sgN (by decide)) rfl (by decide) rfl rfl ⟨(Nat.le_of_ble_eq_true rfl), (Nat.le_of_ble_eq_true rfl)⟩ ⟨rfl, rfl⟩ ⟨(Nat.zero_le _), (Nat.zero_le _)⟩ (Nat.le_of_ble_eq_true rfl) ?_
      refine g_iload_n X 0 dX10_knownDrawn_78 rfl rfl ?_
      obtain ⟨rfl, rfl⟩ := lf2 hf
      exact hret 79 _ dX10_knownDrawn_79 rfl
    · have hf := ie c54 hf
      refine g_aload_n X 0 dX10_knownDrawn_57 rfl rfl ?_
      refine g_iconst X (v := -1) dX10_knownDrawn_58 (by decide) ?_
      obtain ⟨r59, m59, h59, hf⟩ := bi_i hf
      refine g_eVI X 63 9 [.int (-1 : Int32)] kV_X10_382 (c_X10_passes h59) dX10_knownDrawn_59 rfl rfl (sgN (by decide)) rfl (by decide) rfl rfl ⟨(Nat.le_of_ble_eq_true rfl), (Nat.le_of_ble_eq_true rfl)⟩ ⟨rfl, rfl⟩ ⟨(Nat.zero_le _), (Nat.zero_le _)⟩ (Nat.le_of_ble_eq_true rfl) ?_
      refine g_pop X dX10_knownDrawn_62 rfl ?_
      refine g_iinc X 1 (v := v3 + (1 : Int32)) (lv' := [(3, .int (v3 + (1 : Int32))), (0, .ref (ad 63))]) dX10_knownDrawn_63 rfl rfl (by decide) rfl ?_
      refine g_goto X (tgt := 52) dX10_knownDrawn_66 (by decide) ?_
      refine g_pick [1, 0] (lv' := [(0, .ref (ad 63)), (3, .int (v3 + (1 : Int32)))]) rfl ?_
      exact ih (v3 + (1 : Int32)) m59 hf
set_option maxRecDepth 100000 in
set_option maxHeartbeats 4000000 in
theorem w_X10_knownDrawn_8 {Γ : Ga} {b : Nat} {ad : Nat → Nat} {nt : Nat} {z : Nat → Nat} {r9 : Int32} {m9 : Mem} (X : Cx Γ b cX10_knownDrawn 4 RX10 (some .int) rmX10_knownDrawn) (hret : ∀ (pc : Nat) (lv : List (Nat × Value)), decode cX10_knownDrawn pc = .ok (.ireturn, 1) → narrow .int (.int r9) = .int r9 → Go Γ b (sg ad nt z) 0 0 pc lv [.int r9] m9) : ∀ (n : Nat) (v2 : Int32) (v3 : Int32) (m0 : Mem), X10_knownDrawn_8 n v2 v3 m0 = some (r9, m9) → Go Γ b (sg ad nt z) 0 0 8 [(0, .ref (ad 63)), (2, .int v2), (3, .int v3)] [] m0 := by
  intro n
  induction n with
  | zero =>
    intro v2 v3 m0 hf
    cases hf
  | succ n ih =>
    intro v2 v3 m0 hf
    refine g_iload_n X 2 dX10_knownDrawn_8 rfl rfl ?_
    refine g_aload_n X 0 dX10_knownDrawn_9 rfl rfl ?_
    refine g_getI X 63 9 11 dX10_knownDrawn_10 (sgN (by decide)) rfl (by decide) rfl iw_X10 (by decide) rfl q_fl_X10_73 ?_
    refine g_icmp_ge X (tgt := 50) dX10_knownDrawn_13 (by decide) (fun c13 => ?_) (fun c13 => ?_)
    · have hf := it c13 hf
      refine g_iconst X (v := 0) dX10_knownDrawn_50 (by decide) ?_
      refine g_istore_n X (lv' := [(3, .int (0 : Int32)), (0, .ref (ad 63)), (2, .int v2)]) dX10_knownDrawn_51 rfl (by decide) rfl ?_
      refine g_pick [1, 0] (lv' := [(0, .ref (ad 63)), (3, .int (0 : Int32))]) rfl ?_
      exact w_X10_knownDrawn_52 X hret 10000 (0 : Int32) m0 hf
    · have hf := ie c13 hf
      refine g_iload_n X 1 dX10_knownDrawn_16 rfl rfl ?_
      refine g_ldc_w X dX10_knownDrawn_17 q_cn_X10_422 ?_
      refine g_imul X dX10_knownDrawn_20 ?_
      refine g_sipush X (v := 12345) dX10_knownDrawn_21 (by decide) ?_
      refine g_iadd X dX10_knownDrawn_24 ?_
      refine g_istore_n X (lv' := [(2, .int ((v2 * (1103515245 : Int32)) + (12345 : Int32))), (0, .ref (ad 63)), (3, .int v3)]) dX10_knownDrawn_25 rfl (by decide) rfl ?_
      refine g_aload_n X 1 dX10_knownDrawn_26 rfl rfl ?_
      refine g_getr X (x := ad 69) 63 9 10 dX10_knownDrawn_27 (sgN (by decide)) rfl (by decide) rfl iw_X10 (by decide) rfl q_fl_X10_29 rfl ?_
      refine g_iconst X (v := 5) dX10_knownDrawn_30 (by decide) ?_
      refine g_iload_n X 2 dX10_knownDrawn_31 rfl rfl ?_
      refine g_imul X dX10_knownDrawn_32 ?_
      refine g_iconst X (v := 2) dX10_knownDrawn_33 (by decide) ?_
      refine g_iadd X dX10_knownDrawn_34 ?_
      refine g_iload_n X 0 dX10_knownDrawn_35 rfl rfl ?_
      refine g_bipush X (v := 9) dX10_knownDrawn_36 (by decide) ?_
      refine g_iushr X dX10_knownDrawn_38 ?_
      refine g_sipush X (v := 256) dX10_knownDrawn_39 (by decide) ?_
      refine g_irem X dX10_knownDrawn_42 (by decide) ?_
      obtain ⟨h43, hf⟩ := grd hf
      refine g_iast X 69 (n := 30) dX10_knownDrawn_43 (sgN (by decide)) rfl rfl h43 ?_
      refine g_iinc X 2 (v := v3 + (1 : Int32)) (lv' := [(3, .int (v3 + (1 : Int32))), (2, .int ((v2 * (1103515245 : Int32)) + (12345 : Int32))), (0, .ref (ad 63))]) dX10_knownDrawn_44 rfl rfl (by decide) rfl ?_
      refine g_goto X (tgt := 8) dX10_knownDrawn_47 (by decide) ?_
      refine g_pick [2, 1, 0] (lv' := [(0, .ref (ad 63)), (2, .int ((v2 * (1103515245 : Int32)) + (12345 : Int32))), (3, .int (v3 + (1 : Int32)))]) rfl ?_
      exact ih ((v2 * (1103515245 : Int32)) + (12345 : Int32)) (v3 + (1 : Int32)) (pI m0 69 (((5 : Int32) * v3) + (2 : Int32)).toNatClampNeg (((((v2 * (1103515245 : Int32)) + (12345 : Int32)).toUInt32 >>> ((9 : Int32).toUInt32 &&& Int32.toUInt32 31)).toInt32) - ((((v2 * (1103515245 : Int32)) + (12345 : Int32)).toUInt32 >>> ((9 : Int32).toUInt32 &&& Int32.toUInt32 31)).toInt32) / (256 : Int32) * (256 : Int32))) hf
set_option maxRecDepth 100000 in
set_option maxHeartbeats 4000000 in
theorem c_X10_knownDrawn {l : Launch} {G : GG} {b : Nat} {ad : Nat → Nat} {nt : Nat} {z : Nat → Nat} {p0 : Int32} {m0 : Mem} {r9 : Int32} {m9 : Mem} (hf : X10_knownDrawn p0 m0 = some (r9, m9)) : MtI l yX10_knownDrawn cX10_knownDrawn 4 (some .int) rmX10_knownDrawn G b (sg ad nt z) m0 [.ref (ad 63), .int p0] (pEI r9 (sg ad nt z) m9) := by
  refine mtI_of (by decide) (Nat.le_of_ble_eq_true rfl) .int rfl (fun Γ hG X hnm hr => ?_)
  have hret : ∀ (pc : Nat) (lv : List (Nat × Value)), decode cX10_knownDrawn pc = .ok (.ireturn, 1) → narrow .int (.int r9) = .int r9 → Go Γ b (sg ad nt z) 0 0 pc lv [.int r9] m9 := fun pc lv d hn => hr pc lv _ _ _ d ⟨rfl, rfl, rfl⟩ hn
  show Go Γ b (sg ad nt z) 0 0 0 [(0, .ref (ad 63)), (1, .int p0)] [] m0
  refine g_aload_n X 0 dX10_knownDrawn_0 rfl rfl ?_
  obtain ⟨m1, h1, hf⟩ := bv_i hf
  refine g_eVV X 63 9 [] kV_X10_393 (c_X10_laysAside h1) dX10_knownDrawn_1 rfl rfl (sgN (by decide)) rfl (by decide) rfl rfl ⟨(Nat.le_of_ble_eq_true rfl), (Nat.le_of_ble_eq_true rfl)⟩ ⟨rfl, rfl⟩ ⟨(Nat.zero_le _), (Nat.zero_le _)⟩ (Nat.le_of_ble_eq_true rfl) ?_
  refine g_iload_n X 1 dX10_knownDrawn_4 rfl rfl ?_
  refine g_istore_n X (lv' := [(2, .int p0), (0, .ref (ad 63)), (1, .int p0)]) dX10_knownDrawn_5 rfl (by decide) rfl ?_
  refine g_iconst X (v := 0) dX10_knownDrawn_6 (by decide) ?_
  refine g_istore_n X (lv' := [(3, .int (0 : Int32)), (2, .int p0), (0, .ref (ad 63)), (1, .int p0)]) dX10_knownDrawn_7 rfl (by decide) rfl ?_
  refine g_pick [2, 1, 0] (lv' := [(0, .ref (ad 63)), (2, .int p0), (3, .int (0 : Int32))]) rfl ?_
  exact w_X10_knownDrawn_8 X hret 10000 p0 (0 : Int32) m1 hf

theorem kV_X10_423 : wcV RX10 423 RX10 yX10_knownDrawn cX10_knownDrawn 4 (some .int) 1 := ⟨q_ml_X10_423, q_im_yX10_knownDrawn, q_se_yX10_knownDrawn, q_in_X10, q_co_yX10_knownDrawn, by decide +kernel⟩

def X10_drawn (p0 : Int32) (m0 : Mem) : Option (Int32 × Mem) :=
  bi (X10_knownDrawn p0 m0) fun r2 m2 =>
  some (r2, m2)
abbrev rmX10_drawn : Room := { frames := 48, cells := 0, slots := 0, locals := 1077 }

set_option maxRecDepth 100000 in
set_option maxHeartbeats 4000000 in
theorem c_X10_drawn {l : Launch} {G : GG} {b : Nat} {ad : Nat → Nat} {nt : Nat} {z : Nat → Nat} {p0 : Int32} {m0 : Mem} {r9 : Int32} {m9 : Mem} (hf : X10_drawn p0 m0 = some (r9, m9)) : MtI l yX10_drawn cX10_drawn 2 (some .int) rmX10_drawn G b (sg ad nt z) m0 [.ref (ad 63), .int p0] (pEI r9 (sg ad nt z) m9) := by
  refine mtI_of (by decide) (Nat.le_of_ble_eq_true rfl) .int rfl (fun Γ hG X hnm hr => ?_)
  have hret : ∀ (pc : Nat) (lv : List (Nat × Value)), decode cX10_drawn pc = .ok (.ireturn, 1) → narrow .int (.int r9) = .int r9 → Go Γ b (sg ad nt z) 0 0 pc lv [.int r9] m9 := fun pc lv d hn => hr pc lv _ _ _ d ⟨rfl, rfl, rfl⟩ hn
  show Go Γ b (sg ad nt z) 0 0 0 [(0, .ref (ad 63)), (1, .int p0)] [] m0
  refine g_aload_n X 0 dX10_drawn_0 rfl rfl ?_
  refine g_iload_n X 1 dX10_drawn_1 rfl rfl ?_
  obtain ⟨r2, m2, h2, hf⟩ := bi_i hf
  refine g_eVI X 63 9 [.int p0] kV_X10_423 (c_X10_knownDrawn h2) dX10_drawn_2 rfl rfl (sgN (by decide)) rfl (by decide) rfl rfl ⟨(Nat.le_of_ble_eq_true rfl), (Nat.le_of_ble_eq_true rfl)⟩ ⟨rfl, rfl⟩ ⟨(Nat.zero_le _), (Nat.zero_le _)⟩ (Nat.le_of_ble_eq_true rfl) ?_
  obtain ⟨rfl, rfl⟩ := lf2 hf
  exact hret 5 _ dX10_drawn_5 rfl

def X10_chance_87 : Nat → Int32 → Int32 → Int64 → Int64 → Int64 → Mem → Option (Int64 × Mem)
  | 0, _, _, _, _, _, _ => none
  | n + 1, v2, v4, v5, v7, v9, m0 =>
    if (lg_cmp v9 (0 : Int64)) = 0 then
      if v4 = 0 then
        if ¬ v7 = 0 then
        some (v5 / v7, m0)
        else none
      else
        if ¬ v7 = 0 then
        some (v2.toInt64 / v7, m0)
        else none
    else
      if ¬ v9 = 0 then
      X10_chance_87 n v2 v4 v5 v9 (v7 - v7 / v9 * v9) m0
      else none
def X10_chance_70 (k45 : Int32 → Int32 → Int32 → Int32 → Int64 → Int32 → Mem → Option (Int64 × Mem)) (v1 : Int32) (v2 : Int32) (v3 : Int32) (v4 : Int32) (v7 : Int32) (s0 : Int64) (s1 : Int64) (m0 : Mem) : Option (Int64 × Mem) :=
  k45 v1 v2 v3 v4 (s1 + s0) (v7 + (1 : Int32)) m0
def X10_chance_45 : Nat → Int32 → Int32 → Int32 → Int32 → Int64 → Int32 → Mem → Option (Int64 × Mem)
  | 0, _, _, _, _, _, _, _ => none
  | n + 1, v1, v2, v3, v4, v5, v7, m0 =>
    if v2 ≤ v7 then
      X10_chance_87 10000 v2 v4 v5 v5 v2.toInt64 m0
    else
      bi (X10_knownDrawn (v1 + v7) m0) fun r58 m58 =>
      if r58 < v3 then
        X10_chance_70 (X10_chance_45 n) v1 v2 v3 v4 v7 (0 : Int64) v5 m58
      else
        X10_chance_70 (X10_chance_45 n) v1 v2 v3 v4 v7 (1 : Int64) v5 m58
def X10_chance (p0 : Int32) (p1 : Int32) (p2 : Int32) (p3 : Int32) (m0 : Mem) : Option (Int64 × Mem) :=
  bi (X10_in p1.toInt64 (1 : Int64) (20 : Int64) m0) fun r6 m6 =>
  if r6 = 0 then
    some ((-4611686018427387904 : Int64), m6)
  else
    bi (X10_in p2.toInt64 (0 : Int64) (48 : Int64) m6) fun r18 m18 =>
    if r18 = 0 then
      some ((-4611686018427387904 : Int64), m18)
    else
      bi (X10_in p3.toInt64 (0 : Int64) (1 : Int64) m18) fun r29 m29 =>
      if r29 = 0 then
        some ((-4611686018427387904 : Int64), m29)
      else
        X10_chance_45 10000 p0 p1 p2 p3 (0 : Int64) (0 : Int32) m29
abbrev rmX10_chance : Room := { frames := 48, cells := 0, slots := 0, locals := 1077 }
set_option maxRecDepth 100000 in
set_option maxHeartbeats 4000000 in
theorem w_X10_chance_87 {Γ : Ga} {b : Nat} {ad : Nat → Nat} {nt : Nat} {z : Nat → Nat} {r9 : Int64} {m9 : Mem} (X : Cx Γ b cX10_chance 13 RX10 (some .long) rmX10_chance) (hret : ∀ (pc : Nat) (lv : List (Nat × Value)), decode cX10_chance pc = .ok (.lreturn, 1) → Go Γ b (sg ad nt z) 0 0 pc lv [.long r9] m9) : ∀ (n : Nat) (v2 : Int32) (v4 : Int32) (v5 : Int64) (v7 : Int64) (v9 : Int64) (m0 : Mem), X10_chance_87 n v2 v4 v5 v7 v9 m0 = some (r9, m9) → Go Γ b (sg ad nt z) 0 0 87 [(2, .int v2), (4, .int v4), (5, .long v5), (7, .long v7), (9, .long v9)] [] m0 := by
  intro n
  induction n with
  | zero =>
    intro v2 v4 v5 v7 v9 m0 hf
    cases hf
  | succ n ih =>
    intro v2 v4 v5 v7 v9 m0 hf
    refine g_lload X 4 dX10_chance_87 rfl ?_
    refine g_lconst X (v := 0) dX10_chance_89 (by decide) ?_
    refine g_lcmp X dX10_chance_90 ?_
    refine g_if_eq X (tgt := 112) dX10_chance_91 (by decide) (fun c91 => ?_) (fun c91 => ?_)
    · have hf := it c91 hf
      refine g_iload X 1 dX10_chance_112 rfl ?_
      refine g_if_ne X (tgt := 125) dX10_chance_114 (by decide) (fun c114 => ?_) (fun c114 => ?_)
      · have hf := ie c114 hf
        refine g_iload_n X 0 dX10_chance_125 rfl rfl ?_
        refine g_i2l X dX10_chance_126 ?_
        refine g_lload X 3 dX10_chance_127 rfl ?_
        obtain ⟨h129, hf⟩ := grd hf
        refine g_ldiv X dX10_chance_129 h129 ?_
        obtain ⟨rfl, rfl⟩ := lf2 hf
        exact hret 130 _ dX10_chance_130
      · have hf := it c114 hf
        refine g_lload X 2 dX10_chance_117 rfl ?_
        refine g_lload X 3 dX10_chance_119 rfl ?_
        obtain ⟨h121, hf⟩ := grd hf
        refine g_ldiv X dX10_chance_121 h121 ?_
        refine g_goto X (tgt := 130) dX10_chance_122 (by decide) ?_
        obtain ⟨rfl, rfl⟩ := lf2 hf
        exact hret 130 _ dX10_chance_130
    · have hf := ie c91 hf
      refine g_lload X 3 dX10_chance_94 rfl ?_
      refine g_lload X 4 dX10_chance_96 rfl ?_
      obtain ⟨h98, hf⟩ := grd hf
      refine g_lrem X dX10_chance_98 h98 ?_
      refine g_lstore X (lv' := [(11, .long (v7 - v7 / v9 * v9)), (2, .int v2), (4, .int v4), (5, .long v5), (7, .long v7), (9, .long v9)]) dX10_chance_99 (by decide) rfl ?_
      refine g_lload X 5 dX10_chance_101 rfl ?_
      refine g_lstore X (lv' := [(7, .long v9), (11, .long (v7 - v7 / v9 * v9)), (2, .int v2), (4, .int v4), (5, .long v5), (9, .long v9)]) dX10_chance_103 (by decide) rfl ?_
      refine g_lload X 1 dX10_chance_105 rfl ?_
      refine g_lstore X (lv' := [(9, .long (v7 - v7 / v9 * v9)), (7, .long v9), (11, .long (v7 - v7 / v9 * v9)), (2, .int v2), (4, .int v4), (5, .long v5)]) dX10_chance_107 (by decide) rfl ?_
      refine g_goto X (tgt := 87) dX10_chance_109 (by decide) ?_
      refine g_pick [3, 4, 5, 1, 0] (lv' := [(2, .int v2), (4, .int v4), (5, .long v5), (7, .long v9), (9, .long (v7 - v7 / v9 * v9))]) rfl ?_
      exact ih v2 v4 v5 v9 (v7 - v7 / v9 * v9) m0 hf
set_option maxRecDepth 100000 in
set_option maxHeartbeats 4000000 in
theorem w_X10_chance_70 {Γ : Ga} {b : Nat} {ad : Nat → Nat} {nt : Nat} {z : Nat → Nat} {k45 : Int32 → Int32 → Int32 → Int32 → Int64 → Int32 → Mem → Option (Int64 × Mem)} {r9 : Int64} {m9 : Mem} (X : Cx Γ b cX10_chance 13 RX10 (some .long) rmX10_chance) (hret : ∀ (pc : Nat) (lv : List (Nat × Value)), decode cX10_chance pc = .ok (.lreturn, 1) → Go Γ b (sg ad nt z) 0 0 pc lv [.long r9] m9) (hk45 : ∀ (v1 : Int32) (v2 : Int32) (v3 : Int32) (v4 : Int32) (v5 : Int64) (v7 : Int32) (m0 : Mem), k45 v1 v2 v3 v4 v5 v7 m0 = some (r9, m9) → Go Γ b (sg ad nt z) 0 0 45 [(0, .ref (ad 63)), (1, .int v1), (2, .int v2), (3, .int v3), (4, .int v4), (5, .long v5), (7, .int v7)] [] m0) (v1 : Int32) (v2 : Int32) (v3 : Int32) (v4 : Int32) (v7 : Int32) (s0 : Int64) (s1 : Int64) (m0 : Mem) (hf : X10_chance_70 k45 v1 v2 v3 v4 v7 s0 s1 m0 = some (r9, m9)) : Go Γ b (sg ad nt z) 0 0 70 [(0, .ref (ad 63)), (1, .int v1), (2, .int v2), (3, .int v3), (4, .int v4), (7, .int v7)] [.long s0, .long s1] m0 := by
  refine g_ladd X dX10_chance_70 ?_
  refine g_lstore X (lv' := [(5, .long (s1 + s0)), (0, .ref (ad 63)), (1, .int v1), (2, .int v2), (3, .int v3), (4, .int v4), (7, .int v7)]) dX10_chance_71 (by decide) rfl ?_
  refine g_iinc X 6 (v := v7 + (1 : Int32)) (lv' := [(7, .int (v7 + (1 : Int32))), (5, .long (s1 + s0)), (0, .ref (ad 63)), (1, .int v1), (2, .int v2), (3, .int v3), (4, .int v4)]) dX10_chance_73 rfl rfl (by decide) rfl ?_
  refine g_goto X (tgt := 45) dX10_chance_76 (by decide) ?_
  refine g_pick [2, 3, 4, 5, 6, 1, 0] (lv' := [(0, .ref (ad 63)), (1, .int v1), (2, .int v2), (3, .int v3), (4, .int v4), (5, .long (s1 + s0)), (7, .int (v7 + (1 : Int32)))]) rfl ?_
  exact hk45 v1 v2 v3 v4 (s1 + s0) (v7 + (1 : Int32)) m0 hf
set_option maxRecDepth 100000 in
set_option maxHeartbeats 4000000 in
theorem w_X10_chance_45 {Γ : Ga} {b : Nat} {ad : Nat → Nat} {nt : Nat} {z : Nat → Nat} {r9 : Int64} {m9 : Mem} (X : Cx Γ b cX10_chance 13 RX10 (some .long) rmX10_chance) (hret : ∀ (pc : Nat) (lv : List (Nat × Value)), decode cX10_chance pc = .ok (.lreturn, 1) → Go Γ b (sg ad nt z) 0 0 pc lv [.long r9] m9) : ∀ (n : Nat) (v1 : Int32) (v2 : Int32) (v3 : Int32) (v4 : Int32) (v5 : Int64) (v7 : Int32) (m0 : Mem), X10_chance_45 n v1 v2 v3 v4 v5 v7 m0 = some (r9, m9) → Go Γ b (sg ad nt z) 0 0 45 [(0, .ref (ad 63)), (1, .int v1), (2, .int v2), (3, .int v3), (4, .int v4), (5, .long v5), (7, .int v7)] [] m0 := by
  intro n
  induction n with
  | zero =>
    intro v1 v2 v3 v4 v5 v7 m0 hf
    cases hf
  | succ n ih =>
    intro v1 v2 v3 v4 v5 v7 m0 hf
    refine g_iload X 6 dX10_chance_45 rfl ?_
    refine g_iload_n X 2 dX10_chance_47 rfl rfl ?_
    refine g_icmp_ge X (tgt := 79) dX10_chance_48 (by decide) (fun c48 => ?_) (fun c48 => ?_)
    · have hf := it c48 hf
      refine g_lload X 5 dX10_chance_79 rfl ?_
      refine g_lstore X (lv' := [(7, .long v5), (0, .ref (ad 63)), (1, .int v1), (2, .int v2), (3, .int v3), (4, .int v4), (5, .long v5)]) dX10_chance_81 (by decide) rfl ?_
      refine g_iload_n X 3 dX10_chance_83 rfl rfl ?_
      refine g_i2l X dX10_chance_84 ?_
      refine g_lstore X (lv' := [(9, .long v2.toInt64), (7, .long v5), (0, .ref (ad 63)), (1, .int v1), (2, .int v2), (3, .int v3), (4, .int v4), (5, .long v5)]) dX10_chance_85 (by decide) rfl ?_
      refine g_pick [4, 6, 7, 1, 0] (lv' := [(2, .int v2), (4, .int v4), (5, .long v5), (7, .long v5), (9, .long v2.toInt64)]) rfl ?_
      exact w_X10_chance_87 X hret 10000 v2 v4 v5 v5 v2.toInt64 m0 hf
    · have hf := ie c48 hf
      refine g_lload X 5 dX10_chance_51 rfl ?_
      refine g_aload_n X 0 dX10_chance_53 rfl rfl ?_
      refine g_iload_n X 1 dX10_chance_54 rfl rfl ?_
      refine g_iload X 6 dX10_chance_55 rfl ?_
      refine g_iadd X dX10_chance_57 ?_
      obtain ⟨r58, m58, h58, hf⟩ := bi_i hf
      refine g_eVI X 63 9 [.int (v1 + v7)] kV_X10_423 (c_X10_knownDrawn h58) dX10_chance_58 rfl rfl (sgN (by decide)) rfl (by decide) rfl rfl ⟨(Nat.le_of_ble_eq_true rfl), (Nat.le_of_ble_eq_true rfl)⟩ ⟨rfl, rfl⟩ ⟨(Nat.zero_le _), (Nat.zero_le _)⟩ (Nat.le_of_ble_eq_true rfl) ?_
      refine g_iload_n X 3 dX10_chance_61 rfl rfl ?_
      refine g_icmp_lt X (tgt := 69) dX10_chance_62 (by decide) (fun c62 => ?_) (fun c62 => ?_)
      · have hf := it c62 hf
        refine g_lconst X (v := 0) dX10_chance_69 (by decide) ?_
        refine g_pick [0, 1, 2, 3, 4, 6] (lv' := [(0, .ref (ad 63)), (1, .int v1), (2, .int v2), (3, .int v3), (4, .int v4), (7, .int v7)]) rfl ?_
        exact w_X10_chance_70 X hret ih v1 v2 v3 v4 v7 (0 : Int64) v5 m58 hf
      · have hf := ie c62 hf
        refine g_lconst X (v := 1) dX10_chance_65 (by decide) ?_
        refine g_goto X (tgt := 70) dX10_chance_66 (by decide) ?_
        refine g_pick [0, 1, 2, 3, 4, 6] (lv' := [(0, .ref (ad 63)), (1, .int v1), (2, .int v2), (3, .int v3), (4, .int v4), (7, .int v7)]) rfl ?_
        exact w_X10_chance_70 X hret ih v1 v2 v3 v4 v7 (1 : Int64) v5 m58 hf
set_option maxRecDepth 100000 in
set_option maxHeartbeats 4000000 in
theorem c_X10_chance {l : Launch} {G : GG} {b : Nat} {ad : Nat → Nat} {nt : Nat} {z : Nat → Nat} {p0 : Int32} {p1 : Int32} {p2 : Int32} {p3 : Int32} {m0 : Mem} {r9 : Int64} {m9 : Mem} (hf : X10_chance p0 p1 p2 p3 m0 = some (r9, m9)) : MtL l yX10_chance cX10_chance 13 (some .long) rmX10_chance G b (sg ad nt z) m0 [.ref (ad 63), .int p0, .int p1, .int p2, .int p3] (pEL r9 (sg ad nt z) m9) := by
  refine mtL_of (by decide) (Nat.le_of_ble_eq_true rfl) rfl (fun Γ hG X hnm hr => ?_)
  have hret : ∀ (pc : Nat) (lv : List (Nat × Value)), decode cX10_chance pc = .ok (.lreturn, 1) → Go Γ b (sg ad nt z) 0 0 pc lv [.long r9] m9 := fun pc lv d => hr pc lv _ _ _ d ⟨rfl, rfl, rfl⟩
  show Go Γ b (sg ad nt z) 0 0 0 [(0, .ref (ad 63)), (1, .int p0), (2, .int p1), (3, .int p2), (4, .int p3)] [] m0
  refine g_iload_n X 2 dX10_chance_0 rfl rfl ?_
  refine g_i2l X dX10_chance_1 ?_
  refine g_lconst X (v := 1) dX10_chance_2 (by decide) ?_
  refine g_ldc2 X dX10_chance_3 q_cl_X10_121 ?_
  obtain ⟨r6, m6, h6, hf⟩ := bi_i hf
  refine g_eSI X [.long p1.toInt64, .long (1 : Int64), .long (20 : Int64)] kS_X10_76 (c_X10_in h6) dX10_chance_6 rfl rfl ⟨(Nat.le_of_ble_eq_true rfl), (Nat.le_of_ble_eq_true rfl)⟩ ⟨rfl, rfl⟩ ⟨(Nat.zero_le _), (Nat.zero_le _)⟩ (Nat.le_of_ble_eq_true rfl) ?_
  refine g_if_eq X (tgt := 35) dX10_chance_9 (by decide) (fun c9 => ?_) (fun c9 => ?_)
  · have hf := it c9 hf
    refine g_ldc2 X dX10_chance_35 q_cl_X10_426 ?_
    obtain ⟨rfl, rfl⟩ := lf2 hf
    exact hret 38 _ dX10_chance_38
  · have hf := ie c9 hf
    refine g_iload_n X 3 dX10_chance_12 rfl rfl ?_
    refine g_i2l X dX10_chance_13 ?_
    refine g_lconst X (v := 0) dX10_chance_14 (by decide) ?_
    refine g_ldc2 X dX10_chance_15 q_cl_X10_172 ?_
    obtain ⟨r18, m18, h18, hf⟩ := bi_i hf
    refine g_eSI X [.long p2.toInt64, .long (0 : Int64), .long (48 : Int64)] kS_X10_76 (c_X10_in h18) dX10_chance_18 rfl rfl ⟨(Nat.le_of_ble_eq_true rfl), (Nat.le_of_ble_eq_true rfl)⟩ ⟨rfl, rfl⟩ ⟨(Nat.zero_le _), (Nat.zero_le _)⟩ (Nat.le_of_ble_eq_true rfl) ?_
    refine g_if_eq X (tgt := 35) dX10_chance_21 (by decide) (fun c21 => ?_) (fun c21 => ?_)
    · have hf := it c21 hf
      refine g_ldc2 X dX10_chance_35 q_cl_X10_426 ?_
      obtain ⟨rfl, rfl⟩ := lf2 hf
      exact hret 38 _ dX10_chance_38
    · have hf := ie c21 hf
      refine g_iload X 4 dX10_chance_24 rfl ?_
      refine g_i2l X dX10_chance_26 ?_
      refine g_lconst X (v := 0) dX10_chance_27 (by decide) ?_
      refine g_lconst X (v := 1) dX10_chance_28 (by decide) ?_
      obtain ⟨r29, m29, h29, hf⟩ := bi_i hf
      refine g_eSI X [.long p3.toInt64, .long (0 : Int64), .long (1 : Int64)] kS_X10_76 (c_X10_in h29) dX10_chance_29 rfl rfl ⟨(Nat.le_of_ble_eq_true rfl), (Nat.le_of_ble_eq_true rfl)⟩ ⟨rfl, rfl⟩ ⟨(Nat.zero_le _), (Nat.zero_le _)⟩ (Nat.le_of_ble_eq_true rfl) ?_
      refine g_if_ne X (tgt := 39) dX10_chance_32 (by decide) (fun c32 => ?_) (fun c32 => ?_)
      · have hf := ie c32 hf
        refine g_lconst X (v := 0) dX10_chance_39 (by decide) ?_
        refine g_lstore X (lv' := [(5, .long (0 : Int64)), (0, .ref (ad 63)), (1, .int p0), (2, .int p1), (3, .int p2), (4, .int p3)]) dX10_chance_40 (by decide) rfl ?_
        refine g_iconst X (v := 0) dX10_chance_42 (by decide) ?_
        refine g_istore X (lv' := [(7, .int (0 : Int32)), (5, .long (0 : Int64)), (0, .ref (ad 63)), (1, .int p0), (2, .int p1), (3, .int p2), (4, .int p3)]) dX10_chance_43 (by decide) rfl ?_
        refine g_pick [2, 3, 4, 5, 6, 1, 0] (lv' := [(0, .ref (ad 63)), (1, .int p0), (2, .int p1), (3, .int p2), (4, .int p3), (5, .long (0 : Int64)), (7, .int (0 : Int32))]) rfl ?_
        exact w_X10_chance_45 X hret 10000 p0 p1 p2 p3 (0 : Int64) (0 : Int32) m29 hf
      · have hf := it c32 hf
        refine g_ldc2 X dX10_chance_35 q_cl_X10_426 ?_
        obtain ⟨rfl, rfl⟩ := lf2 hf
        exact hret 38 _ dX10_chance_38

def X10_image_28 : Nat → Int32 → Mem → Option (Int32 × Mem)
  | 0, _, _ => none
  | n + 1, v1, m0 =>
    if (30 : Int32) ≤ v1 then
      some ((pI (pI (pI m0 63 33 (m0.1 63 11)) 63 34 ((pI m0 63 33 (m0.1 63 11)).1 63 7)) 63 35 ((pI (pI m0 63 33 (m0.1 63 11)) 63 34 ((pI m0 63 33 (m0.1 63 11)).1 63 7)).1 63 4)).1 63 11, pI (pI (pI m0 63 33 (m0.1 63 11)) 63 34 ((pI m0 63 33 (m0.1 63 11)).1 63 7)) 63 35 ((pI (pI m0 63 33 (m0.1 63 11)) 63 34 ((pI m0 63 33 (m0.1 63 11)).1 63 7)).1 63 4))
    else
      if inn v1 30 then
      if inn v1 30 then
      X10_image_28 n (v1 + (1 : Int32)) (pI m0 74 v1.toNatClampNeg (m0.1 69 v1.toNatClampNeg))
      else none
      else none
def X10_image_2 : Nat → Int32 → Mem → Option (Int32 × Mem)
  | 0, _, _ => none
  | n + 1, v1, m0 =>
    if (64 : Int32) ≤ v1 then
      X10_image_28 10000 (0 : Int32) m0
    else
      if inn v1 64 then
      if inn v1 64 then
      X10_image_2 n (v1 + (1 : Int32)) (pI m0 73 v1.toNatClampNeg (m0.1 67 v1.toNatClampNeg))
      else none
      else none
def X10_image (m0 : Mem) : Option (Int32 × Mem) :=
  X10_image_2 10000 (0 : Int32) m0
abbrev rmX10_image : Room := { frames := 0, cells := 0, slots := 0, locals := 0 }
set_option maxRecDepth 100000 in
set_option maxHeartbeats 4000000 in
theorem w_X10_image_28 {Γ : Ga} {b : Nat} {ad : Nat → Nat} {nt : Nat} {z : Nat → Nat} {r9 : Int32} {m9 : Mem} (X : Cx Γ b cX10_image 2 RX10 (some .int) rmX10_image) (hret : ∀ (pc : Nat) (lv : List (Nat × Value)), decode cX10_image pc = .ok (.ireturn, 1) → narrow .int (.int r9) = .int r9 → Go Γ b (sg ad nt z) 0 0 pc lv [.int r9] m9) : ∀ (n : Nat) (v1 : Int32) (m0 : Mem), X10_image_28 n v1 m0 = some (r9, m9) → Go Γ b (sg ad nt z) 0 0 28 [(0, .ref (ad 63)), (1, .int v1)] [] m0 := by
  intro n
  induction n with
  | zero =>
    intro v1 m0 hf
    cases hf
  | succ n ih =>
    intro v1 m0 hf
    refine g_iload_n X 1 dX10_image_28 rfl rfl ?_
    refine g_bipush X (v := 30) dX10_image_29 (by decide) ?_
    refine g_icmp_ge X (tgt := 52) dX10_image_31 (by decide) (fun c31 => ?_) (fun c31 => ?_)
    · have hf := it c31 hf
      refine g_aload_n X 0 dX10_image_52 rfl rfl ?_
      refine g_aload_n X 0 dX10_image_53 rfl rfl ?_
      refine g_getI X 63 9 11 dX10_image_54 (sgN (by decide)) rfl (by decide) rfl iw_X10 (by decide) rfl q_fl_X10_73 ?_
      refine g_putI X (tyf := tyX10) 63 9 33 dX10_image_57 (sgN (by decide)) rfl (by decide) rfl iw_X10 (by decide) rfl q_fl_X10_47 tyX10_ok nmX10 rfl rfl rfl ?_
      refine g_aload_n X 0 dX10_image_60 rfl rfl ?_
      refine g_aload_n X 0 dX10_image_61 rfl rfl ?_
      refine g_getI X 63 9 7 dX10_image_62 (sgN (by decide)) rfl (by decide) rfl iw_X10 (by decide) rfl q_fl_X10_100 ?_
      refine g_putI X (tyf := tyX10) 63 9 34 dX10_image_65 (sgN (by decide)) rfl (by decide) rfl iw_X10 (by decide) rfl q_fl_X10_428 tyX10_ok nmX10 rfl rfl rfl ?_
      refine g_aload_n X 0 dX10_image_68 rfl rfl ?_
      refine g_aload_n X 0 dX10_image_69 rfl rfl ?_
      refine g_getI X 63 9 4 dX10_image_70 (sgN (by decide)) rfl (by decide) rfl iw_X10 (by decide) rfl q_fl_X10_103 ?_
      refine g_putI X (tyf := tyX10) 63 9 35 dX10_image_73 (sgN (by decide)) rfl (by decide) rfl iw_X10 (by decide) rfl q_fl_X10_431 tyX10_ok nmX10 rfl rfl rfl ?_
      refine g_aload_n X 0 dX10_image_76 rfl rfl ?_
      refine g_getI X 63 9 11 dX10_image_77 (sgN (by decide)) rfl (by decide) rfl iw_X10 (by decide) rfl q_fl_X10_73 ?_
      obtain ⟨rfl, rfl⟩ := lf2 hf
      exact hret 80 _ dX10_image_80 rfl
    · have hf := ie c31 hf
      refine g_aload_n X 0 dX10_image_34 rfl rfl ?_
      refine g_getr X (x := ad 74) 63 9 32 dX10_image_35 (sgN (by decide)) rfl (by decide) rfl iw_X10 (by decide) rfl q_fl_X10_44 rfl ?_
      refine g_iload_n X 1 dX10_image_38 rfl rfl ?_
      refine g_aload_n X 0 dX10_image_39 rfl rfl ?_
      refine g_getr X (x := ad 69) 63 9 10 dX10_image_40 (sgN (by decide)) rfl (by decide) rfl iw_X10 (by decide) rfl q_fl_X10_29 rfl ?_
      refine g_iload_n X 1 dX10_image_43 rfl rfl ?_
      obtain ⟨h44, hf⟩ := grd hf
      refine g_iald X 69 (n := 30) dX10_image_44 (sgN (by decide)) rfl rfl h44 ?_
      obtain ⟨h45, hf⟩ := grd hf
      refine g_iast X 74 (n := 30) dX10_image_45 (sgN (by decide)) rfl rfl h45 ?_
      refine g_iinc X 1 (v := v1 + (1 : Int32)) (lv' := [(1, .int (v1 + (1 : Int32))), (0, .ref (ad 63))]) dX10_image_46 rfl rfl (by decide) rfl ?_
      refine g_goto X (tgt := 28) dX10_image_49 (by decide) ?_
      refine g_pick [1, 0] (lv' := [(0, .ref (ad 63)), (1, .int (v1 + (1 : Int32)))]) rfl ?_
      exact ih (v1 + (1 : Int32)) (pI m0 74 v1.toNatClampNeg (m0.1 69 v1.toNatClampNeg)) hf
set_option maxRecDepth 100000 in
set_option maxHeartbeats 4000000 in
theorem w_X10_image_2 {Γ : Ga} {b : Nat} {ad : Nat → Nat} {nt : Nat} {z : Nat → Nat} {r9 : Int32} {m9 : Mem} (X : Cx Γ b cX10_image 2 RX10 (some .int) rmX10_image) (hret : ∀ (pc : Nat) (lv : List (Nat × Value)), decode cX10_image pc = .ok (.ireturn, 1) → narrow .int (.int r9) = .int r9 → Go Γ b (sg ad nt z) 0 0 pc lv [.int r9] m9) : ∀ (n : Nat) (v1 : Int32) (m0 : Mem), X10_image_2 n v1 m0 = some (r9, m9) → Go Γ b (sg ad nt z) 0 0 2 [(0, .ref (ad 63)), (1, .int v1)] [] m0 := by
  intro n
  induction n with
  | zero =>
    intro v1 m0 hf
    cases hf
  | succ n ih =>
    intro v1 m0 hf
    refine g_iload_n X 1 dX10_image_2 rfl rfl ?_
    refine g_bipush X (v := 64) dX10_image_3 (by decide) ?_
    refine g_icmp_ge X (tgt := 26) dX10_image_5 (by decide) (fun c5 => ?_) (fun c5 => ?_)
    · have hf := it c5 hf
      refine g_iconst X (v := 0) dX10_image_26 (by decide) ?_
      refine g_istore_n X (lv' := [(1, .int (0 : Int32)), (0, .ref (ad 63))]) dX10_image_27 rfl (by decide) rfl ?_
      refine g_pick [1, 0] (lv' := [(0, .ref (ad 63)), (1, .int (0 : Int32))]) rfl ?_
      exact w_X10_image_28 X hret 10000 (0 : Int32) m0 hf
    · have hf := ie c5 hf
      refine g_aload_n X 0 dX10_image_8 rfl rfl ?_
      refine g_getr X (x := ad 73) 63 9 31 dX10_image_9 (sgN (by decide)) rfl (by decide) rfl iw_X10 (by decide) rfl q_fl_X10_41 rfl ?_
      refine g_iload_n X 1 dX10_image_12 rfl rfl ?_
      refine g_aload_n X 0 dX10_image_13 rfl rfl ?_
      refine g_getr X (x := ad 67) 63 9 8 dX10_image_14 (sgN (by decide)) rfl (by decide) rfl iw_X10 (by decide) rfl q_fl_X10_23 rfl ?_
      refine g_iload_n X 1 dX10_image_17 rfl rfl ?_
      obtain ⟨h18, hf⟩ := grd hf
      refine g_iald X 67 (n := 64) dX10_image_18 (sgN (by decide)) rfl rfl h18 ?_
      obtain ⟨h19, hf⟩ := grd hf
      refine g_iast X 73 (n := 64) dX10_image_19 (sgN (by decide)) rfl rfl h19 ?_
      refine g_iinc X 1 (v := v1 + (1 : Int32)) (lv' := [(1, .int (v1 + (1 : Int32))), (0, .ref (ad 63))]) dX10_image_20 rfl rfl (by decide) rfl ?_
      refine g_goto X (tgt := 2) dX10_image_23 (by decide) ?_
      refine g_pick [1, 0] (lv' := [(0, .ref (ad 63)), (1, .int (v1 + (1 : Int32)))]) rfl ?_
      exact ih (v1 + (1 : Int32)) (pI m0 73 v1.toNatClampNeg (m0.1 67 v1.toNatClampNeg)) hf
set_option maxRecDepth 100000 in
set_option maxHeartbeats 4000000 in
theorem c_X10_image {l : Launch} {G : GG} {b : Nat} {ad : Nat → Nat} {nt : Nat} {z : Nat → Nat} {m0 : Mem} {r9 : Int32} {m9 : Mem} (hf : X10_image m0 = some (r9, m9)) : MtI l yX10_image cX10_image 2 (some .int) rmX10_image G b (sg ad nt z) m0 [.ref (ad 63)] (pEI r9 (sg ad nt z) m9) := by
  refine mtI_of (by decide) (Nat.le_of_ble_eq_true rfl) .int rfl (fun Γ hG X hnm hr => ?_)
  have hret : ∀ (pc : Nat) (lv : List (Nat × Value)), decode cX10_image pc = .ok (.ireturn, 1) → narrow .int (.int r9) = .int r9 → Go Γ b (sg ad nt z) 0 0 pc lv [.int r9] m9 := fun pc lv d hn => hr pc lv _ _ _ d ⟨rfl, rfl, rfl⟩ hn
  show Go Γ b (sg ad nt z) 0 0 0 [(0, .ref (ad 63))] [] m0
  refine g_iconst X (v := 0) dX10_image_0 (by decide) ?_
  refine g_istore_n X (lv' := [(1, .int (0 : Int32)), (0, .ref (ad 63))]) dX10_image_1 rfl (by decide) rfl ?_
  refine g_pick [1, 0] (lv' := [(0, .ref (ad 63)), (1, .int (0 : Int32))]) rfl ?_
  exact w_X10_image_2 X hret 10000 (0 : Int32) m0 hf

def X10_back_39 : Nat → Int32 → Mem → Option (Int32 × Mem)
  | 0, _, _ => none
  | n + 1, v1, m0 =>
    if (30 : Int32) ≤ v1 then
      bv (X10_spreads m0) fun m64 =>
      some ((pI (pI (pI m64 63 11 (m64.1 63 33)) 63 7 ((pI m64 63 11 (m64.1 63 33)).1 63 34)) 63 4 ((pI (pI m64 63 11 (m64.1 63 33)) 63 7 ((pI m64 63 11 (m64.1 63 33)).1 63 34)).1 63 35)).1 63 11, pI (pI (pI m64 63 11 (m64.1 63 33)) 63 7 ((pI m64 63 11 (m64.1 63 33)).1 63 34)) 63 4 ((pI (pI m64 63 11 (m64.1 63 33)) 63 7 ((pI m64 63 11 (m64.1 63 33)).1 63 34)).1 63 35))
    else
      if inn v1 30 then
      if inn v1 30 then
      X10_back_39 n (v1 + (1 : Int32)) (pI m0 69 v1.toNatClampNeg (m0.1 74 v1.toNatClampNeg))
      else none
      else none
def X10_back_13 : Nat → Int32 → Mem → Option (Int32 × Mem)
  | 0, _, _ => none
  | n + 1, v1, m0 =>
    if (64 : Int32) ≤ v1 then
      X10_back_39 10000 (0 : Int32) m0
    else
      if inn v1 64 then
      if inn v1 64 then
      X10_back_13 n (v1 + (1 : Int32)) (pI m0 67 v1.toNatClampNeg (m0.1 73 v1.toNatClampNeg))
      else none
      else none
def X10_back (m0 : Mem) : Option (Int32 × Mem) :=
  if (m0.1 63 33) = (-1 : Int32) then
    some ((-3 : Int32), m0)
  else
    X10_back_13 10000 (0 : Int32) m0
abbrev rmX10_back : Room := { frames := 1, cells := 0, slots := 0, locals := 23 }
set_option maxRecDepth 100000 in
set_option maxHeartbeats 4000000 in
theorem w_X10_back_39 {Γ : Ga} {b : Nat} {ad : Nat → Nat} {nt : Nat} {z : Nat → Nat} {r9 : Int32} {m9 : Mem} (X : Cx Γ b cX10_back 2 RX10 (some .int) rmX10_back) (hret : ∀ (pc : Nat) (lv : List (Nat × Value)), decode cX10_back pc = .ok (.ireturn, 1) → narrow .int (.int r9) = .int r9 → Go Γ b (sg ad nt z) 0 0 pc lv [.int r9] m9) : ∀ (n : Nat) (v1 : Int32) (m0 : Mem), X10_back_39 n v1 m0 = some (r9, m9) → Go Γ b (sg ad nt z) 0 0 39 [(0, .ref (ad 63)), (1, .int v1)] [] m0 := by
  intro n
  induction n with
  | zero =>
    intro v1 m0 hf
    cases hf
  | succ n ih =>
    intro v1 m0 hf
    refine g_iload_n X 1 dX10_back_39 rfl rfl ?_
    refine g_bipush X (v := 30) dX10_back_40 (by decide) ?_
    refine g_icmp_ge X (tgt := 63) dX10_back_42 (by decide) (fun c42 => ?_) (fun c42 => ?_)
    · have hf := it c42 hf
      refine g_aload_n X 0 dX10_back_63 rfl rfl ?_
      obtain ⟨m64, h64, hf⟩ := bv_i hf
      refine g_eVV X 63 9 [] kV_X10_63 (c_X10_spreads h64) dX10_back_64 rfl rfl (sgN (by decide)) rfl (by decide) rfl rfl ⟨(Nat.le_of_ble_eq_true rfl), (Nat.le_of_ble_eq_true rfl)⟩ ⟨rfl, rfl⟩ ⟨(Nat.zero_le _), (Nat.zero_le _)⟩ (Nat.le_of_ble_eq_true rfl) ?_
      refine g_aload_n X 0 dX10_back_67 rfl rfl ?_
      refine g_aload_n X 0 dX10_back_68 rfl rfl ?_
      refine g_getI X 63 9 33 dX10_back_69 (sgN (by decide)) rfl (by decide) rfl iw_X10 (by decide) rfl q_fl_X10_47 ?_
      refine g_putI X (tyf := tyX10) 63 9 11 dX10_back_72 (sgN (by decide)) rfl (by decide) rfl iw_X10 (by decide) rfl q_fl_X10_73 tyX10_ok nmX10 rfl rfl rfl ?_
      refine g_aload_n X 0 dX10_back_75 rfl rfl ?_
      refine g_aload_n X 0 dX10_back_76 rfl rfl ?_
      refine g_getI X 63 9 34 dX10_back_77 (sgN (by decide)) rfl (by decide) rfl iw_X10 (by decide) rfl q_fl_X10_428 ?_
      refine g_putI X (tyf := tyX10) 63 9 7 dX10_back_80 (sgN (by decide)) rfl (by decide) rfl iw_X10 (by decide) rfl q_fl_X10_100 tyX10_ok nmX10 rfl rfl rfl ?_
      refine g_aload_n X 0 dX10_back_83 rfl rfl ?_
      refine g_aload_n X 0 dX10_back_84 rfl rfl ?_
      refine g_getI X 63 9 35 dX10_back_85 (sgN (by decide)) rfl (by decide) rfl iw_X10 (by decide) rfl q_fl_X10_431 ?_
      refine g_putI X (tyf := tyX10) 63 9 4 dX10_back_88 (sgN (by decide)) rfl (by decide) rfl iw_X10 (by decide) rfl q_fl_X10_103 tyX10_ok nmX10 rfl rfl rfl ?_
      refine g_aload_n X 0 dX10_back_91 rfl rfl ?_
      refine g_getI X 63 9 11 dX10_back_92 (sgN (by decide)) rfl (by decide) rfl iw_X10 (by decide) rfl q_fl_X10_73 ?_
      obtain ⟨rfl, rfl⟩ := lf2 hf
      exact hret 95 _ dX10_back_95 rfl
    · have hf := ie c42 hf
      refine g_aload_n X 0 dX10_back_45 rfl rfl ?_
      refine g_getr X (x := ad 69) 63 9 10 dX10_back_46 (sgN (by decide)) rfl (by decide) rfl iw_X10 (by decide) rfl q_fl_X10_29 rfl ?_
      refine g_iload_n X 1 dX10_back_49 rfl rfl ?_
      refine g_aload_n X 0 dX10_back_50 rfl rfl ?_
      refine g_getr X (x := ad 74) 63 9 32 dX10_back_51 (sgN (by decide)) rfl (by decide) rfl iw_X10 (by decide) rfl q_fl_X10_44 rfl ?_
      refine g_iload_n X 1 dX10_back_54 rfl rfl ?_
      obtain ⟨h55, hf⟩ := grd hf
      refine g_iald X 74 (n := 30) dX10_back_55 (sgN (by decide)) rfl rfl h55 ?_
      obtain ⟨h56, hf⟩ := grd hf
      refine g_iast X 69 (n := 30) dX10_back_56 (sgN (by decide)) rfl rfl h56 ?_
      refine g_iinc X 1 (v := v1 + (1 : Int32)) (lv' := [(1, .int (v1 + (1 : Int32))), (0, .ref (ad 63))]) dX10_back_57 rfl rfl (by decide) rfl ?_
      refine g_goto X (tgt := 39) dX10_back_60 (by decide) ?_
      refine g_pick [1, 0] (lv' := [(0, .ref (ad 63)), (1, .int (v1 + (1 : Int32)))]) rfl ?_
      exact ih (v1 + (1 : Int32)) (pI m0 69 v1.toNatClampNeg (m0.1 74 v1.toNatClampNeg)) hf
set_option maxRecDepth 100000 in
set_option maxHeartbeats 4000000 in
theorem w_X10_back_13 {Γ : Ga} {b : Nat} {ad : Nat → Nat} {nt : Nat} {z : Nat → Nat} {r9 : Int32} {m9 : Mem} (X : Cx Γ b cX10_back 2 RX10 (some .int) rmX10_back) (hret : ∀ (pc : Nat) (lv : List (Nat × Value)), decode cX10_back pc = .ok (.ireturn, 1) → narrow .int (.int r9) = .int r9 → Go Γ b (sg ad nt z) 0 0 pc lv [.int r9] m9) : ∀ (n : Nat) (v1 : Int32) (m0 : Mem), X10_back_13 n v1 m0 = some (r9, m9) → Go Γ b (sg ad nt z) 0 0 13 [(0, .ref (ad 63)), (1, .int v1)] [] m0 := by
  intro n
  induction n with
  | zero =>
    intro v1 m0 hf
    cases hf
  | succ n ih =>
    intro v1 m0 hf
    refine g_iload_n X 1 dX10_back_13 rfl rfl ?_
    refine g_bipush X (v := 64) dX10_back_14 (by decide) ?_
    refine g_icmp_ge X (tgt := 37) dX10_back_16 (by decide) (fun c16 => ?_) (fun c16 => ?_)
    · have hf := it c16 hf
      refine g_iconst X (v := 0) dX10_back_37 (by decide) ?_
      refine g_istore_n X (lv' := [(1, .int (0 : Int32)), (0, .ref (ad 63))]) dX10_back_38 rfl (by decide) rfl ?_
      refine g_pick [1, 0] (lv' := [(0, .ref (ad 63)), (1, .int (0 : Int32))]) rfl ?_
      exact w_X10_back_39 X hret 10000 (0 : Int32) m0 hf
    · have hf := ie c16 hf
      refine g_aload_n X 0 dX10_back_19 rfl rfl ?_
      refine g_getr X (x := ad 67) 63 9 8 dX10_back_20 (sgN (by decide)) rfl (by decide) rfl iw_X10 (by decide) rfl q_fl_X10_23 rfl ?_
      refine g_iload_n X 1 dX10_back_23 rfl rfl ?_
      refine g_aload_n X 0 dX10_back_24 rfl rfl ?_
      refine g_getr X (x := ad 73) 63 9 31 dX10_back_25 (sgN (by decide)) rfl (by decide) rfl iw_X10 (by decide) rfl q_fl_X10_41 rfl ?_
      refine g_iload_n X 1 dX10_back_28 rfl rfl ?_
      obtain ⟨h29, hf⟩ := grd hf
      refine g_iald X 73 (n := 64) dX10_back_29 (sgN (by decide)) rfl rfl h29 ?_
      obtain ⟨h30, hf⟩ := grd hf
      refine g_iast X 67 (n := 64) dX10_back_30 (sgN (by decide)) rfl rfl h30 ?_
      refine g_iinc X 1 (v := v1 + (1 : Int32)) (lv' := [(1, .int (v1 + (1 : Int32))), (0, .ref (ad 63))]) dX10_back_31 rfl rfl (by decide) rfl ?_
      refine g_goto X (tgt := 13) dX10_back_34 (by decide) ?_
      refine g_pick [1, 0] (lv' := [(0, .ref (ad 63)), (1, .int (v1 + (1 : Int32)))]) rfl ?_
      exact ih (v1 + (1 : Int32)) (pI m0 67 v1.toNatClampNeg (m0.1 73 v1.toNatClampNeg)) hf
set_option maxRecDepth 100000 in
set_option maxHeartbeats 4000000 in
theorem c_X10_back {l : Launch} {G : GG} {b : Nat} {ad : Nat → Nat} {nt : Nat} {z : Nat → Nat} {m0 : Mem} {r9 : Int32} {m9 : Mem} (hf : X10_back m0 = some (r9, m9)) : MtI l yX10_back cX10_back 2 (some .int) rmX10_back G b (sg ad nt z) m0 [.ref (ad 63)] (pEI r9 (sg ad nt z) m9) := by
  refine mtI_of (by decide) (Nat.le_of_ble_eq_true rfl) .int rfl (fun Γ hG X hnm hr => ?_)
  have hret : ∀ (pc : Nat) (lv : List (Nat × Value)), decode cX10_back pc = .ok (.ireturn, 1) → narrow .int (.int r9) = .int r9 → Go Γ b (sg ad nt z) 0 0 pc lv [.int r9] m9 := fun pc lv d hn => hr pc lv _ _ _ d ⟨rfl, rfl, rfl⟩ hn
  show Go Γ b (sg ad nt z) 0 0 0 [(0, .ref (ad 63))] [] m0
  refine g_aload_n X 0 dX10_back_0 rfl rfl ?_
  refine g_getI X 63 9 33 dX10_back_1 (sgN (by decide)) rfl (by decide) rfl iw_X10 (by decide) rfl q_fl_X10_47 ?_
  refine g_iconst X (v := -1) dX10_back_4 (by decide) ?_
  refine g_icmp_ne X (tgt := 11) dX10_back_5 (by decide) (fun c5 => ?_) (fun c5 => ?_)
  · have hf := ie c5 hf
    refine g_iconst X (v := 0) dX10_back_11 (by decide) ?_
    refine g_istore_n X (lv' := [(1, .int (0 : Int32)), (0, .ref (ad 63))]) dX10_back_12 rfl (by decide) rfl ?_
    refine g_pick [1, 0] (lv' := [(0, .ref (ad 63)), (1, .int (0 : Int32))]) rfl ?_
    exact w_X10_back_13 X hret 10000 (0 : Int32) m0 hf
  · have hf := it c5 hf
    refine g_bipush X (v := -3) dX10_back_8 (by decide) ?_
    obtain ⟨rfl, rfl⟩ := lf2 hf
    exact hret 10 _ dX10_back_10 rfl

def X10_count_97 (k65 : Int32 → Int32 → Int32 → Mem → Option (Int32 × Mem)) (v1 : Int32) (v3 : Int32) (s0 : Int32) (s1 : Int32) (m0 : Mem) : Option (Int32 × Mem) :=
  k65 v1 (s1 + s0) (v3 + (1 : Int32)) m0
def X10_count_96 (k65 : Int32 → Int32 → Int32 → Mem → Option (Int32 × Mem)) (v1 : Int32) (v3 : Int32) (s0 : Int32) (m0 : Mem) : Option (Int32 × Mem) :=
  X10_count_97 k65 v1 v3 (0 : Int32) s0 m0
def X10_count_65 : Nat → Int32 → Int32 → Int32 → Mem → Option (Int32 × Mem)
  | 0, _, _, _, _ => none
  | n + 1, v1, v2, v3, m0 =>
    if (64 : Int32) ≤ v3 then
      if v1 = 0 then
        some (m0.1 63 11, m0)
      else
        some (v2, m0)
    else
      if inn v3 64 then
      if (m0.1 67 v3.toNatClampNeg) ≤ 0 then
        X10_count_96 (X10_count_65 n) v1 v3 v2 m0
      else
        if (v3 - v3 / (8 : Int32) * (8 : Int32)) ≤ (v3 / (8 : Int32)) then
          X10_count_96 (X10_count_65 n) v1 v3 v2 m0
        else
          X10_count_97 (X10_count_65 n) v1 v3 (1 : Int32) v2 m0
      else none
def X10_count (p0 : Int32) (m0 : Mem) : Option (Int32 × Mem) :=
  bi (X10_in p0.toInt64 (0 : Int64) (5 : Int64) m0) fun r6 m6 =>
  if r6 = 0 then
    some ((-2 : Int32), m6)
  else
    if p0 ≤ (1 : Int32) then
      X10_count_65 10000 p0 (0 : Int32) (0 : Int32) m6
    else
      if p0 = (2 : Int32) then
        bi (X10_minutesAll m6) fun r26 m26 =>
        some (r26, m26)
      else
        if p0 = (3 : Int32) then
          some (m6.1 63 3, m6)
        else
          if p0 = (4 : Int32) then
            some (m6.1 63 6, m6)
          else
            some (m6.1 63 4, m6)
abbrev rmX10_count : Room := { frames := 1, cells := 0, slots := 0, locals := 25 }
set_option maxRecDepth 100000 in
set_option maxHeartbeats 4000000 in
theorem w_X10_count_97 {Γ : Ga} {b : Nat} {ad : Nat → Nat} {nt : Nat} {z : Nat → Nat} {k65 : Int32 → Int32 → Int32 → Mem → Option (Int32 × Mem)} {r9 : Int32} {m9 : Mem} (X : Cx Γ b cX10_count 4 RX10 (some .int) rmX10_count) (hret : ∀ (pc : Nat) (lv : List (Nat × Value)), decode cX10_count pc = .ok (.ireturn, 1) → narrow .int (.int r9) = .int r9 → Go Γ b (sg ad nt z) 0 0 pc lv [.int r9] m9) (hk65 : ∀ (v1 : Int32) (v2 : Int32) (v3 : Int32) (m0 : Mem), k65 v1 v2 v3 m0 = some (r9, m9) → Go Γ b (sg ad nt z) 0 0 65 [(0, .ref (ad 63)), (1, .int v1), (2, .int v2), (3, .int v3)] [] m0) (v1 : Int32) (v3 : Int32) (s0 : Int32) (s1 : Int32) (m0 : Mem) (hf : X10_count_97 k65 v1 v3 s0 s1 m0 = some (r9, m9)) : Go Γ b (sg ad nt z) 0 0 97 [(0, .ref (ad 63)), (1, .int v1), (3, .int v3)] [.int s0, .int s1] m0 := by
  refine g_iadd X dX10_count_97 ?_
  refine g_istore_n X (lv' := [(2, .int (s1 + s0)), (0, .ref (ad 63)), (1, .int v1), (3, .int v3)]) dX10_count_98 rfl (by decide) rfl ?_
  refine g_iinc X 3 (v := v3 + (1 : Int32)) (lv' := [(3, .int (v3 + (1 : Int32))), (2, .int (s1 + s0)), (0, .ref (ad 63)), (1, .int v1)]) dX10_count_99 rfl rfl (by decide) rfl ?_
  refine g_goto X (tgt := 65) dX10_count_102 (by decide) ?_
  refine g_pick [2, 3, 1, 0] (lv' := [(0, .ref (ad 63)), (1, .int v1), (2, .int (s1 + s0)), (3, .int (v3 + (1 : Int32)))]) rfl ?_
  exact hk65 v1 (s1 + s0) (v3 + (1 : Int32)) m0 hf
set_option maxRecDepth 100000 in
set_option maxHeartbeats 4000000 in
theorem w_X10_count_96 {Γ : Ga} {b : Nat} {ad : Nat → Nat} {nt : Nat} {z : Nat → Nat} {k65 : Int32 → Int32 → Int32 → Mem → Option (Int32 × Mem)} {r9 : Int32} {m9 : Mem} (X : Cx Γ b cX10_count 4 RX10 (some .int) rmX10_count) (hret : ∀ (pc : Nat) (lv : List (Nat × Value)), decode cX10_count pc = .ok (.ireturn, 1) → narrow .int (.int r9) = .int r9 → Go Γ b (sg ad nt z) 0 0 pc lv [.int r9] m9) (hk65 : ∀ (v1 : Int32) (v2 : Int32) (v3 : Int32) (m0 : Mem), k65 v1 v2 v3 m0 = some (r9, m9) → Go Γ b (sg ad nt z) 0 0 65 [(0, .ref (ad 63)), (1, .int v1), (2, .int v2), (3, .int v3)] [] m0) (v1 : Int32) (v3 : Int32) (s0 : Int32) (m0 : Mem) (hf : X10_count_96 k65 v1 v3 s0 m0 = some (r9, m9)) : Go Γ b (sg ad nt z) 0 0 96 [(0, .ref (ad 63)), (1, .int v1), (3, .int v3)] [.int s0] m0 := by
  refine g_iconst X (v := 0) dX10_count_96 (by decide) ?_
  exact w_X10_count_97 X hret hk65 v1 v3 (0 : Int32) s0 m0 hf
set_option maxRecDepth 100000 in
set_option maxHeartbeats 4000000 in
theorem w_X10_count_65 {Γ : Ga} {b : Nat} {ad : Nat → Nat} {nt : Nat} {z : Nat → Nat} {r9 : Int32} {m9 : Mem} (X : Cx Γ b cX10_count 4 RX10 (some .int) rmX10_count) (hret : ∀ (pc : Nat) (lv : List (Nat × Value)), decode cX10_count pc = .ok (.ireturn, 1) → narrow .int (.int r9) = .int r9 → Go Γ b (sg ad nt z) 0 0 pc lv [.int r9] m9) : ∀ (n : Nat) (v1 : Int32) (v2 : Int32) (v3 : Int32) (m0 : Mem), X10_count_65 n v1 v2 v3 m0 = some (r9, m9) → Go Γ b (sg ad nt z) 0 0 65 [(0, .ref (ad 63)), (1, .int v1), (2, .int v2), (3, .int v3)] [] m0 := by
  intro n
  induction n with
  | zero =>
    intro v1 v2 v3 m0 hf
    cases hf
  | succ n ih =>
    intro v1 v2 v3 m0 hf
    refine g_iload_n X 3 dX10_count_65 rfl rfl ?_
    refine g_bipush X (v := 64) dX10_count_66 (by decide) ?_
    refine g_icmp_ge X (tgt := 105) dX10_count_68 (by decide) (fun c68 => ?_) (fun c68 => ?_)
    · have hf := it c68 hf
      refine g_iload_n X 1 dX10_count_105 rfl rfl ?_
      refine g_if_ne X (tgt := 116) dX10_count_106 (by decide) (fun c106 => ?_) (fun c106 => ?_)
      · have hf := ie c106 hf
        refine g_iload_n X 2 dX10_count_116 rfl rfl ?_
        obtain ⟨rfl, rfl⟩ := lf2 hf
        exact hret 117 _ dX10_count_117 rfl
      · have hf := it c106 hf
        refine g_aload_n X 0 dX10_count_109 rfl rfl ?_
        refine g_getI X 63 9 11 dX10_count_110 (sgN (by decide)) rfl (by decide) rfl iw_X10 (by decide) rfl q_fl_X10_73 ?_
        refine g_goto X (tgt := 117) dX10_count_113 (by decide) ?_
        obtain ⟨rfl, rfl⟩ := lf2 hf
        exact hret 117 _ dX10_count_117 rfl
    · have hf := ie c68 hf
      refine g_iload_n X 2 dX10_count_71 rfl rfl ?_
      refine g_aload_n X 0 dX10_count_72 rfl rfl ?_
      refine g_getr X (x := ad 67) 63 9 8 dX10_count_73 (sgN (by decide)) rfl (by decide) rfl iw_X10 (by decide) rfl q_fl_X10_23 rfl ?_
      refine g_iload_n X 3 dX10_count_76 rfl rfl ?_
      obtain ⟨h77, hf⟩ := grd hf
      refine g_iald X 67 (n := 64) dX10_count_77 (sgN (by decide)) rfl rfl h77 ?_
      refine g_if_le X (tgt := 96) dX10_count_78 (by decide) (fun c78 => ?_) (fun c78 => ?_)
      · have hf := it c78 hf
        refine g_pick [0, 1, 3] (lv' := [(0, .ref (ad 63)), (1, .int v1), (3, .int v3)]) rfl ?_
        exact w_X10_count_96 X hret ih v1 v3 v2 m0 hf
      · have hf := ie c78 hf
        refine g_iload_n X 3 dX10_count_81 rfl rfl ?_
        refine g_bipush X (v := 8) dX10_count_82 (by decide) ?_
        refine g_idiv X dX10_count_84 (by decide) ?_
        refine g_iload_n X 3 dX10_count_85 rfl rfl ?_
        refine g_bipush X (v := 8) dX10_count_86 (by decide) ?_
        refine g_irem X dX10_count_88 (by decide) ?_
        refine g_icmp_ge X (tgt := 96) dX10_count_89 (by decide) (fun c89 => ?_) (fun c89 => ?_)
        · have hf := it c89 hf
          refine g_pick [0, 1, 3] (lv' := [(0, .ref (ad 63)), (1, .int v1), (3, .int v3)]) rfl ?_
          exact w_X10_count_96 X hret ih v1 v3 v2 m0 hf
        · have hf := ie c89 hf
          refine g_iconst X (v := 1) dX10_count_92 (by decide) ?_
          refine g_goto X (tgt := 97) dX10_count_93 (by decide) ?_
          refine g_pick [0, 1, 3] (lv' := [(0, .ref (ad 63)), (1, .int v1), (3, .int v3)]) rfl ?_
          exact w_X10_count_97 X hret ih v1 v3 (1 : Int32) v2 m0 hf
set_option maxRecDepth 100000 in
set_option maxHeartbeats 4000000 in
theorem c_X10_count {l : Launch} {G : GG} {b : Nat} {ad : Nat → Nat} {nt : Nat} {z : Nat → Nat} {p0 : Int32} {m0 : Mem} {r9 : Int32} {m9 : Mem} (hf : X10_count p0 m0 = some (r9, m9)) : MtI l yX10_count cX10_count 4 (some .int) rmX10_count G b (sg ad nt z) m0 [.ref (ad 63), .int p0] (pEI r9 (sg ad nt z) m9) := by
  refine mtI_of (by decide) (Nat.le_of_ble_eq_true rfl) .int rfl (fun Γ hG X hnm hr => ?_)
  have hret : ∀ (pc : Nat) (lv : List (Nat × Value)), decode cX10_count pc = .ok (.ireturn, 1) → narrow .int (.int r9) = .int r9 → Go Γ b (sg ad nt z) 0 0 pc lv [.int r9] m9 := fun pc lv d hn => hr pc lv _ _ _ d ⟨rfl, rfl, rfl⟩ hn
  show Go Γ b (sg ad nt z) 0 0 0 [(0, .ref (ad 63)), (1, .int p0)] [] m0
  refine g_iload_n X 1 dX10_count_0 rfl rfl ?_
  refine g_i2l X dX10_count_1 ?_
  refine g_lconst X (v := 0) dX10_count_2 (by decide) ?_
  refine g_ldc2 X dX10_count_3 q_cl_X10_111 ?_
  obtain ⟨r6, m6, h6, hf⟩ := bi_i hf
  refine g_eSI X [.long p0.toInt64, .long (0 : Int64), .long (5 : Int64)] kS_X10_76 (c_X10_in h6) dX10_count_6 rfl rfl ⟨(Nat.le_of_ble_eq_true rfl), (Nat.le_of_ble_eq_true rfl)⟩ ⟨rfl, rfl⟩ ⟨(Nat.zero_le _), (Nat.zero_le _)⟩ (Nat.le_of_ble_eq_true rfl) ?_
  refine g_if_ne X (tgt := 15) dX10_count_9 (by decide) (fun c9 => ?_) (fun c9 => ?_)
  · have hf := ie c9 hf
    refine g_iload_n X 1 dX10_count_15 rfl rfl ?_
    refine g_iconst X (v := 1) dX10_count_16 (by decide) ?_
    refine g_icmp_le X (tgt := 61) dX10_count_17 (by decide) (fun c17 => ?_) (fun c17 => ?_)
    · have hf := it c17 hf
      refine g_iconst X (v := 0) dX10_count_61 (by decide) ?_
      refine g_istore_n X (lv' := [(2, .int (0 : Int32)), (0, .ref (ad 63)), (1, .int p0)]) dX10_count_62 rfl (by decide) rfl ?_
      refine g_iconst X (v := 0) dX10_count_63 (by decide) ?_
      refine g_istore_n X (lv' := [(3, .int (0 : Int32)), (2, .int (0 : Int32)), (0, .ref (ad 63)), (1, .int p0)]) dX10_count_64 rfl (by decide) rfl ?_
      refine g_pick [2, 3, 1, 0] (lv' := [(0, .ref (ad 63)), (1, .int p0), (2, .int (0 : Int32)), (3, .int (0 : Int32))]) rfl ?_
      exact w_X10_count_65 X hret 10000 p0 (0 : Int32) (0 : Int32) m6 hf
    · have hf := ie c17 hf
      refine g_iload_n X 1 dX10_count_20 rfl rfl ?_
      refine g_iconst X (v := 2) dX10_count_21 (by decide) ?_
      refine g_icmp_ne X (tgt := 32) dX10_count_22 (by decide) (fun c22 => ?_) (fun c22 => ?_)
      · have hf := ie c22 hf
        refine g_iload_n X 1 dX10_count_32 rfl rfl ?_
        refine g_iconst X (v := 3) dX10_count_33 (by decide) ?_
        refine g_icmp_ne X (tgt := 44) dX10_count_34 (by decide) (fun c34 => ?_) (fun c34 => ?_)
        · have hf := ie c34 hf
          refine g_iload_n X 1 dX10_count_44 rfl rfl ?_
          refine g_iconst X (v := 4) dX10_count_45 (by decide) ?_
          refine g_icmp_ne X (tgt := 56) dX10_count_46 (by decide) (fun c46 => ?_) (fun c46 => ?_)
          · have hf := ie c46 hf
            refine g_aload_n X 0 dX10_count_56 rfl rfl ?_
            refine g_getI X 63 9 4 dX10_count_57 (sgN (by decide)) rfl (by decide) rfl iw_X10 (by decide) rfl q_fl_X10_103 ?_
            obtain ⟨rfl, rfl⟩ := lf2 hf
            exact hret 60 _ dX10_count_60 rfl
          · have hf := it c46 hf
            refine g_aload_n X 0 dX10_count_49 rfl rfl ?_
            refine g_getI X 63 9 6 dX10_count_50 (sgN (by decide)) rfl (by decide) rfl iw_X10 (by decide) rfl q_fl_X10_147 ?_
            refine g_goto X (tgt := 60) dX10_count_53 (by decide) ?_
            obtain ⟨rfl, rfl⟩ := lf2 hf
            exact hret 60 _ dX10_count_60 rfl
        · have hf := it c34 hf
          refine g_aload_n X 0 dX10_count_37 rfl rfl ?_
          refine g_getI X 63 9 3 dX10_count_38 (sgN (by decide)) rfl (by decide) rfl iw_X10 (by decide) rfl q_fl_X10_70 ?_
          refine g_goto X (tgt := 60) dX10_count_41 (by decide) ?_
          obtain ⟨rfl, rfl⟩ := lf2 hf
          exact hret 60 _ dX10_count_60 rfl
      · have hf := it c22 hf
        refine g_aload_n X 0 dX10_count_25 rfl rfl ?_
        obtain ⟨r26, m26, h26, hf⟩ := bi_i hf
        refine g_eVI X 63 9 [] kV_X10_390 (c_X10_minutesAll h26) dX10_count_26 rfl rfl (sgN (by decide)) rfl (by decide) rfl rfl ⟨(Nat.le_of_ble_eq_true rfl), (Nat.le_of_ble_eq_true rfl)⟩ ⟨rfl, rfl⟩ ⟨(Nat.zero_le _), (Nat.zero_le _)⟩ (Nat.le_of_ble_eq_true rfl) ?_
        refine g_goto X (tgt := 60) dX10_count_29 (by decide) ?_
        obtain ⟨rfl, rfl⟩ := lf2 hf
        exact hret 60 _ dX10_count_60 rfl
  · have hf := it c9 hf
    refine g_bipush X (v := -2) dX10_count_12 (by decide) ?_
    obtain ⟨rfl, rfl⟩ := lf2 hf
    exact hret 14 _ dX10_count_14 rfl
