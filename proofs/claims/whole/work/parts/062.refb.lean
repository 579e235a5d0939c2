theorem kV_X10_272 : wcV RX10 272 RX10 yX10_atom3 cX10_atom3 2 (some .int) 0 := ⟨q_ml_X10_272, q_im_yX10_atom3, q_se_yX10_atom3, q_in_X10, q_co_yX10_atom3, by decide +kernel⟩

def X10_term3_5 : Nat → Int32 → Mem → Option (Int32 × Mem)
  | 0, _, _ => none
  | n + 1, v1, m0 =>
    bi (X10_isSign (42 : Int32) m0) fun r8 m8 =>
    if r8 = 0 then
      some (v1, m8)
    else
      bv (X10_next m8) fun m15 =>
      bi (X10_atom3 m15) fun r20 m20 =>
      X10_term3_5 n (v1 * r20) m20
def X10_term3 (m0 : Mem) : Option (Int32 × Mem) :=
  bi (X10_atom3 m0) fun r1 m1 =>
  X10_term3_5 10000 r1 m1
abbrev rmX10_term3 : Room := { frames := 17, cells := 0, slots := 0, locals := 376 }
set_option maxRecDepth 100000 in
set_option maxHeartbeats 4000000 in
theorem w_X10_term3_5 {Γ : Ga} {b : Nat} {ad : Nat → Nat} {nt : Nat} {z : Nat → Nat} {r9 : Int32} {m9 : Mem} (X : Cx Γ b cX10_term3 2 RX10 (some .int) rmX10_term3) (hret : ∀ (pc : Nat) (lv : List (Nat × Value)), decode cX10_term3 pc = .ok (.ireturn, 1) → narrow .int (.int r9) = .int r9 → Go Γ b (sg ad nt z) 0 0 pc lv [.int r9] m9) : ∀ (n : Nat) (v1 : Int32) (m0 : Mem), X10_term3_5 n v1 m0 = some (r9, m9) → Go Γ b (sg ad nt z) 0 0 5 [(0, .ref (ad 63)), (1, .int v1)] [] m0 := by
  intro n
  induction n with
  | zero =>
    intro v1 m0 hf
    cases hf
  | succ n ih =>
    intro v1 m0 hf
    refine g_aload_n X 0 dX10_term3_5 rfl rfl ?_
    refine g_bipush X (v := 42) dX10_term3_6 (by decide) ?_
    obtain ⟨r8, m8, h8, hf⟩ := bi_i hf
    refine g_eVI X 63 9 [.int (42 : Int32)] kV_X10_221 (c_X10_isSign h8) dX10_term3_8 rfl rfl (sgN (by decide)) rfl (by decide) rfl rfl ⟨(Nat.le_of_ble_eq_true rfl), (Nat.le_of_ble_eq_true rfl)⟩ ⟨rfl, rfl⟩ ⟨(Nat.zero_le _), (Nat.zero_le _)⟩ (Nat.le_of_ble_eq_true rfl) ?_
    refine g_if_eq X (tgt := 28) dX10_term3_11 (by decide) (fun c11 => ?_) (fun c11 => ?_)
    · have hf := it c11 hf
      refine g_iload_n X 1 dX10_term3_28 rfl rfl ?_
      obtain ⟨rfl, rfl⟩ := lf2 hf
      exact hret 29 _ dX10_term3_29 rfl
    · have hf := ie c11 hf
      refine g_aload_n X 0 dX10_term3_14 rfl rfl ?_
      obtain ⟨m15, h15, hf⟩ := bv_i hf
      refine g_eVV X 63 9 [] kV_X10_196 (c_X10_next h15) dX10_term3_15 rfl rfl (sgN (by decide)) rfl (by decide) rfl rfl ⟨(Nat.le_of_ble_eq_true rfl), (Nat.le_of_ble_eq_true rfl)⟩ ⟨rfl, rfl⟩ ⟨(Nat.zero_le _), (Nat.zero_le _)⟩ (Nat.le_of_ble_eq_true rfl) ?_
      refine g_iload_n X 1 dX10_term3_18 rfl rfl ?_
      refine g_aload_n X 0 dX10_term3_19 rfl rfl ?_
      obtain ⟨r20, m20, h20, hf⟩ := bi_i hf
      refine g_eVI X 63 9 [] kV_X10_272 (c_X10_atom3 h20) dX10_term3_20 rfl rfl (sgN (by decide)) rfl (by decide) rfl rfl ⟨(Nat.le_of_ble_eq_true rfl), (Nat.le_of_ble_eq_true rfl)⟩ ⟨rfl, rfl⟩ ⟨(Nat.zero_le _), (Nat.zero_le _)⟩ (Nat.le_of_ble_eq_true rfl) ?_
      refine g_imul X dX10_term3_23 ?_
      refine g_istore_n X (lv' := [(1, .int (v1 * r20)), (0, .ref (ad 63))]) dX10_term3_24 rfl (by decide) rfl ?_
      refine g_goto X (tgt := 5) dX10_term3_25 (by decide) ?_
      refine g_pick [1, 0] (lv' := [(0, .ref (ad 63)), (1, .int (v1 * r20))]) rfl ?_
      exact ih (v1 * r20) m20 hf
set_option maxRecDepth 100000 in
set_option maxHeartbeats 4000000 in
theorem c_X10_term3 {l : Launch} {G : GG} {b : Nat} {ad : Nat → Nat} {nt : Nat} {z : Nat → Nat} {m0 : Mem} {r9 : Int32} {m9 : Mem} (hf : X10_term3 m0 = some (r9, m9)) : MtI l yX10_term3 cX10_term3 2 (some .int) rmX10_term3 G b (sg ad nt z) m0 [.ref (ad 63)] (pEI r9 (sg ad nt z) m9) := by
  refine mtI_of (by decide) (Nat.le_of_ble_eq_true rfl) .int rfl (fun Γ hG X hnm hr => ?_)
  have hret : ∀ (pc : Nat) (lv : List (Nat × Value)), decode cX10_term3 pc = .ok (.ireturn, 1) → narrow .int (.int r9) = .int r9 → Go Γ b (sg ad nt z) 0 0 pc lv [.int r9] m9 := fun pc lv d hn => hr pc lv _ _ _ d ⟨rfl, rfl, rfl⟩ hn
  show Go Γ b (sg ad nt z) 0 0 0 [(0, .ref (ad 63))] [] m0
  refine g_aload_n X 0 dX10_term3_0 rfl rfl ?_
  obtain ⟨r1, m1, h1, hf⟩ := bi_i hf
  refine g_eVI X 63 9 [] kV_X10_272 (c_X10_atom3 h1) dX10_term3_1 rfl rfl (sgN (by decide)) rfl (by decide) rfl rfl ⟨(Nat.le_of_ble_eq_true rfl), (Nat.le_of_ble_eq_true rfl)⟩ ⟨rfl, rfl⟩ ⟨(Nat.zero_le _), (Nat.zero_le _)⟩ (Nat.le_of_ble_eq_true rfl) ?_
  refine g_istore_n X (lv' := [(1, .int r1), (0, .ref (ad 63))]) dX10_term3_4 rfl (by decide) rfl ?_
  refine g_pick [1, 0] (lv' := [(0, .ref (ad 63)), (1, .int r1)]) rfl ?_
  exact w_X10_term3_5 X hret 10000 r1 m1 hf

theorem kV_X10_275 : wcV RX10 275 RX10 yX10_term3 cX10_term3 2 (some .int) 0 := ⟨q_ml_X10_275, q_im_yX10_term3, q_se_yX10_term3, q_in_X10, q_co_yX10_term3, by decide +kernel⟩

def X10_added3_62 (k5 : Int32 → Mem → Option (Int32 × Mem)) (s0 : Int32) (m0 : Mem) : Option (Int32 × Mem) :=
  k5 s0 m0
def X10_added3_39 (k5 : Int32 → Mem → Option (Int32 × Mem)) (v1 : Int32) (s0 : Int32) (m0 : Mem) : Option (Int32 × Mem) :=
  bv (X10_next m0) fun m41 =>
  bi (X10_term3 m41) fun r45 m45 =>
  if s0 = 0 then
    X10_added3_62 k5 (v1 - r45) m45
  else
    X10_added3_62 k5 (v1 + r45) m45
def X10_added3_23 (k5 : Int32 → Mem → Option (Int32 × Mem)) (v1 : Int32) (m0 : Mem) : Option (Int32 × Mem) :=
  if (lg_cmp (m0.2 63 24) (43 : Int64)) = 0 then
    X10_added3_39 k5 v1 (1 : Int32) m0
  else
    X10_added3_39 k5 v1 (0 : Int32) m0
def X10_added3_5 : Nat → Int32 → Mem → Option (Int32 × Mem)
  | 0, _, _ => none
  | n + 1, v1, m0 =>
    bi (X10_isSign (43 : Int32) m0) fun r8 m8 =>
    if r8 = 0 then
      bi (X10_isSign (45 : Int32) m8) fun r17 m17 =>
      if r17 = 0 then
        some (v1, m17)
      else
        X10_added3_23 (X10_added3_5 n) v1 m17
    else
      X10_added3_23 (X10_added3_5 n) v1 m8
def X10_added3 (m0 : Mem) : Option (Int32 × Mem) :=
  bi (X10_term3 m0) fun r1 m1 =>
  X10_added3_5 10000 r1 m1
abbrev rmX10_added3 : Room := { frames := 18, cells := 0, slots := 0, locals := 397 }
set_option maxRecDepth 100000 in
set_option maxHeartbeats 4000000 in
theorem w_X10_added3_62 {Γ : Ga} {b : Nat} {ad : Nat → Nat} {nt : Nat} {z : Nat → Nat} {k5 : Int32 → Mem → Option (Int32 × Mem)} {r9 : Int32} {m9 : Mem} (X : Cx Γ b cX10_added3 4 RX10 (some .int) rmX10_added3) (hret : ∀ (pc : Nat) (lv : List (Nat × Value)), decode cX10_added3 pc = .ok (.ireturn, 1) → narrow .int (.int r9) = .int r9 → Go Γ b (sg ad nt z) 0 0 pc lv [.int r9] m9) (hk5 : ∀ (v1 : Int32) (m0 : Mem), k5 v1 m0 = some (r9, m9) → Go Γ b (sg ad nt z) 0 0 5 [(0, .ref (ad 63)), (1, .int v1)] [] m0) (s0 : Int32) (m0 : Mem) (hf : X10_added3_62 k5 s0 m0 = some (r9, m9)) : Go Γ b (sg ad nt z) 0 0 62 [(0, .ref (ad 63))] [.int s0] m0 := by
  refine g_istore_n X (lv' := [(1, .int s0), (0, .ref (ad 63))]) dX10_added3_62 rfl (by decide) rfl ?_
  refine g_goto X (tgt := 5) dX10_added3_63 (by decide) ?_
  refine g_pick [1, 0] (lv' := [(0, .ref (ad 63)), (1, .int s0)]) rfl ?_
  exact hk5 s0 m0 hf
set_option maxRecDepth 100000 in
set_option maxHeartbeats 4000000 in
theorem w_X10_added3_39 {Γ : Ga} {b : Nat} {ad : Nat → Nat} {nt : Nat} {z : Nat → Nat} {k5 : Int32 → Mem → Option (Int32 × Mem)} {r9 : Int32} {m9 : Mem} (X : Cx Γ b cX10_added3 4 RX10 (some .int) rmX10_added3) (hret : ∀ (pc : Nat) (lv : List (Nat × Value)), decode cX10_added3 pc = .ok (.ireturn, 1) → narrow .int (.int r9) = .int r9 → Go Γ b (sg ad nt z) 0 0 pc lv [.int r9] m9) (hk5 : ∀ (v1 : Int32) (m0 : Mem), k5 v1 m0 = some (r9, m9) → Go Γ b (sg ad nt z) 0 0 5 [(0, .ref (ad 63)), (1, .int v1)] [] m0) (v1 : Int32) (s0 : Int32) (m0 : Mem) (hf : X10_added3_39 k5 v1 s0 m0 = some (r9, m9)) : Go Γ b (sg ad nt z) 0 0 39 [(0, .ref (ad 63)), (1, .int v1)] [.int s0] m0 := by
  refine g_istore_n X (lv' := [(2, .int s0), (0, .ref (ad 63)), (1, .int v1)]) dX10_added3_39 rfl (by decide) rfl ?_
  refine g_aload_n X 1 dX10_added3_40 rfl rfl ?_
  obtain ⟨m41, h41, hf⟩ := bv_i hf
  refine g_eVV X 63 9 [] kV_X10_196 (c_X10_next h41) dX10_added3_41 rfl rfl (sgN (by decide)) rfl (by decide) rfl rfl ⟨(Nat.le_of_ble_eq_true rfl), (Nat.le_of_ble_eq_true rfl)⟩ ⟨rfl, rfl⟩ ⟨(Nat.zero_le _), (Nat.zero_le _)⟩ (Nat.le_of_ble_eq_true rfl) ?_
  refine g_aload_n X 1 dX10_added3_44 rfl rfl ?_
  obtain ⟨r45, m45, h45, hf⟩ := bi_i hf
  refine g_eVI X 63 9 [] kV_X10_275 (c_X10_term3 h45) dX10_added3_45 rfl rfl (sgN (by decide)) rfl (by decide) rfl rfl ⟨(Nat.le_of_ble_eq_true rfl), (Nat.le_of_ble_eq_true rfl)⟩ ⟨rfl, rfl⟩ ⟨(Nat.zero_le _), (Nat.zero_le _)⟩ (Nat.le_of_ble_eq_true rfl) ?_
  refine g_istore_n X (lv' := [(3, .int r45), (2, .int s0), (0, .ref (ad 63)), (1, .int v1)]) dX10_added3_48 rfl (by decide) rfl ?_
  refine g_iload_n X 1 dX10_added3_49 rfl rfl ?_
  refine g_if_eq X (tgt := 59) dX10_added3_50 (by decide) (fun c50 => ?_) (fun c50 => ?_)
  · have hf := it c50 hf
    refine g_iload_n X 3 dX10_added3_59 rfl rfl ?_
    refine g_iload_n X 0 dX10_added3_60 rfl rfl ?_
    refine g_isub X dX10_added3_61 ?_
    refine g_pick [2] (lv' := [(0, .ref (ad 63))]) rfl ?_
    exact w_X10_added3_62 X hret hk5 (v1 - r45) m45 hf
  · have hf := ie c50 hf
    refine g_iload_n X 3 dX10_added3_53 rfl rfl ?_
    refine g_iload_n X 0 dX10_added3_54 rfl rfl ?_
    refine g_iadd X dX10_added3_55 ?_
    refine g_goto X (tgt := 62) dX10_added3_56 (by decide) ?_
    refine g_pick [2] (lv' := [(0, .ref (ad 63))]) rfl ?_
    exact w_X10_added3_62 X hret hk5 (v1 + r45) m45 hf
set_option maxRecDepth 100000 in
set_option maxHeartbeats 4000000 in
theorem w_X10_added3_23 {Γ : Ga} {b : Nat} {ad : Nat → Nat} {nt : Nat} {z : Nat → Nat} {k5 : Int32 → Mem → Option (Int32 × Mem)} {r9 : Int32} {m9 : Mem} (X : Cx Γ b cX10_added3 4 RX10 (some .int) rmX10_added3) (hret : ∀ (pc : Nat) (lv : List (Nat × Value)), decode cX10_added3 pc = .ok (.ireturn, 1) → narrow .int (.int r9) = .int r9 → Go Γ b (sg ad nt z) 0 0 pc lv [.int r9] m9) (hk5 : ∀ (v1 : Int32) (m0 : Mem), k5 v1 m0 = some (r9, m9) → Go Γ b (sg ad nt z) 0 0 5 [(0, .ref (ad 63)), (1, .int v1)] [] m0) (v1 : Int32) (m0 : Mem) (hf : X10_added3_23 k5 v1 m0 = some (r9, m9)) : Go Γ b (sg ad nt z) 0 0 23 [(0, .ref (ad 63)), (1, .int v1)] [] m0 := by
  refine g_aload_n X 0 dX10_added3_23 rfl rfl ?_
  refine g_getJ X 63 9 24 dX10_added3_24 (sgN (by decide)) rfl (by decide) rfl iw_X10 (by decide) rfl q_fl_X10_176 ?_
  refine g_ldc2 X dX10_added3_27 q_cl_X10_238 ?_
  refine g_lcmp X dX10_added3_30 ?_
  refine g_if_ne X (tgt := 38) dX10_added3_31 (by decide) (fun c31 => ?_) (fun c31 => ?_)
  · have hf := ie c31 hf
    refine g_iconst X (v := 0) dX10_added3_38 (by decide) ?_
    exact w_X10_added3_39 X hret hk5 v1 (0 : Int32) m0 hf
  · have hf := it c31 hf
    refine g_iconst X (v := 1) dX10_added3_34 (by decide) ?_
    refine g_goto X (tgt := 39) dX10_added3_35 (by decide) ?_
    exact w_X10_added3_39 X hret hk5 v1 (1 : Int32) m0 hf
set_option maxRecDepth 100000 in
set_option maxHeartbeats 4000000 in
theorem w_X10_added3_5 {Γ : Ga} {b : Nat} {ad : Nat → Nat} {nt : Nat} {z : Nat → Nat} {r9 : Int32} {m9 : Mem} (X : Cx Γ b cX10_added3 4 RX10 (some .int) rmX10_added3) (hret : ∀ (pc : Nat) (lv : List (Nat × Value)), decode cX10_added3 pc = .ok (.ireturn, 1) → narrow .int (.int r9) = .int r9 → Go Γ b (sg ad nt z) 0 0 pc lv [.int r9] m9) : ∀ (n : Nat) (v1 : Int32) (m0 : Mem), X10_added3_5 n v1 m0 = some (r9, m9) → Go Γ b (sg ad nt z) 0 0 5 [(0, .ref (ad 63)), (1, .int v1)] [] m0 := by
  intro n
  induction n with
  | zero =>
    intro v1 m0 hf
    cases hf
  | succ n ih =>
    intro v1 m0 hf
    refine g_aload_n X 0 dX10_added3_5 rfl rfl ?_
    refine g_bipush X (v := 43) dX10_added3_6 (by decide) ?_
    obtain ⟨r8, m8, h8, hf⟩ := bi_i hf
    refine g_eVI X 63 9 [.int (43 : Int32)] kV_X10_221 (c_X10_isSign h8) dX10_added3_8 rfl rfl (sgN (by decide)) rfl (by decide) rfl rfl ⟨(Nat.le_of_ble_eq_true rfl), (Nat.le_of_ble_eq_true rfl)⟩ ⟨rfl, rfl⟩ ⟨(Nat.zero_le _), (Nat.zero_le _)⟩ (Nat.le_of_ble_eq_true rfl) ?_
    refine g_if_ne X (tgt := 23) dX10_added3_11 (by decide) (fun c11 => ?_) (fun c11 => ?_)
    · have hf := ie c11 hf
      exact w_X10_added3_23 X hret ih v1 m8 hf
    · have hf := it c11 hf
      refine g_aload_n X 0 dX10_added3_14 rfl rfl ?_
      refine g_bipush X (v := 45) dX10_added3_15 (by decide) ?_
      obtain ⟨r17, m17, h17, hf⟩ := bi_i hf
      refine g_eVI X 63 9 [.int (45 : Int32)] kV_X10_221 (c_X10_isSign h17) dX10_added3_17 rfl rfl (sgN (by decide)) rfl (by decide) rfl rfl ⟨(Nat.le_of_ble_eq_true rfl), (Nat.le_of_ble_eq_true rfl)⟩ ⟨rfl, rfl⟩ ⟨(Nat.zero_le _), (Nat.zero_le _)⟩ (Nat.le_of_ble_eq_true rfl) ?_
      refine g_if_eq X (tgt := 66) dX10_added3_20 (by decide) (fun c20 => ?_) (fun c20 => ?_)
      · have hf := it c20 hf
        refine g_iload_n X 1 dX10_added3_66 rfl rfl ?_
        obtain ⟨rfl, rfl⟩ := lf2 hf
        exact hret 67 _ dX10_added3_67 rfl
      · have hf := ie c20 hf
        exact w_X10_added3_23 X hret ih v1 m17 hf
set_option maxRecDepth 100000 in
set_option maxHeartbeats 4000000 in
theorem c_X10_added3 {l : Launch} {G : GG} {b : Nat} {ad : Nat → Nat} {nt : Nat} {z : Nat → Nat} {m0 : Mem} {r9 : Int32} {m9 : Mem} (hf : X10_added3 m0 = some (r9, m9)) : MtI l yX10_added3 cX10_added3 4 (some .int) rmX10_added3 G b (sg ad nt z) m0 [.ref (ad 63)] (pEI r9 (sg ad nt z) m9) := by
  refine mtI_of (by decide) (Nat.le_of_ble_eq_true rfl) .int rfl (fun Γ hG X hnm hr => ?_)
  have hret : ∀ (pc : Nat) (lv : List (Nat × Value)), decode cX10_added3 pc = .ok (.ireturn, 1) → narrow .int (.int r9) = .int r9 → Go Γ b (sg ad nt z) 0 0 pc lv [.int r9] m9 := fun pc lv d hn => hr pc lv _ _ _ d ⟨rfl, rfl, rfl⟩ hn
  show Go Γ b (sg ad nt z) 0 0 0 [(0, .ref (ad 63))] [] m0
  refine g_aload_n X 0 dX10_added3_0 rfl rfl ?_
  obtain ⟨r1, m1, h1, hf⟩ := bi_i hf
  refine g_eVI X 63 9 [] kV_X10_275 (c_X10_term3 h1) dX10_added3_1 rfl rfl (sgN (by decide)) rfl (by decide) rfl rfl ⟨(Nat.le_of_ble_eq_true rfl), (Nat.le_of_ble_eq_true rfl)⟩ ⟨rfl, rfl⟩ ⟨(Nat.zero_le _), (Nat.zero_le _)⟩ (Nat.le_of_ble_eq_true rfl) ?_
  refine g_istore_n X (lv' := [(1, .int r1), (0, .ref (ad 63))]) dX10_added3_4 rfl (by decide) rfl ?_
  refine g_pick [1, 0] (lv' := [(0, .ref (ad 63)), (1, .int r1)]) rfl ?_
  exact w_X10_added3_5 X hret 10000 r1 m1 hf

theorem kV_X10_278 : wcV RX10 278 RX10 yX10_added3 cX10_added3 4 (some .int) 0 := ⟨q_ml_X10_278, q_im_yX10_added3, q_se_yX10_added3, q_in_X10, q_co_yX10_added3, by decide +kernel⟩

def X10_not3_93 (v1 : Int32) (s0 : Int32) (m0 : Mem) : Option (Int32 × Mem) :=
  bv (X10_next m0) fun m95 =>
  bi (X10_added3 m95) fun r99 m99 =>
  if s0 = 0 then
    if v1 = r99 then
      some ((1 : Int32), m99)
    else
      some ((0 : Int32), m99)
  else
    if r99 ≤ v1 then
      some ((0 : Int32), m99)
    else
      some ((1 : Int32), m99)
def X10_not3_77 (v1 : Int32) (m0 : Mem) : Option (Int32 × Mem) :=
  if (lg_cmp (m0.2 63 24) (60 : Int64)) = 0 then
    X10_not3_93 v1 (1 : Int32) m0
  else
    X10_not3_93 v1 (0 : Int32) m0
def X10_not3 (m0 : Mem) : Option (Int32 × Mem) :=
  bi (X10_isWord (110 : Int32) (111 : Int32) (116 : Int32) (0 : Int32) (0 : Int32) (0 : Int32) (0 : Int32) (0 : Int32) m0) fun r12 m12 =>
  if r12 = 0 then
    bi (X10_added3 m12) fun r53 m53 =>
    bi (X10_isSign (60 : Int32) m53) fun r60 m60 =>
    if r60 = 0 then
      bi (X10_isSign (61 : Int32) m60) fun r69 m69 =>
      if r69 = 0 then
        some (r53, m69)
      else
        X10_not3_77 r53 m69
    else
      X10_not3_77 r53 m60
  else
    bi (X10_opens m12) fun r19 m19 =>
    if r19 = 0 then
      some ((0 : Int32), m19)
    else
      bi (X10_not4 m19) fun r28 m28 =>
      if r28 = 0 then
        some ((1 : Int32), pI m28 63 25 ((m28.1 63 25) - (1 : Int32)))
      else
        some ((0 : Int32), pI m28 63 25 ((m28.1 63 25) - (1 : Int32)))
abbrev rmX10_not3 : Room := { frames := 19, cells := 0, slots := 0, locals := 420 }
set_option maxRecDepth 100000 in
set_option maxHeartbeats 4000000 in
theorem w_X10_not3_93 {Γ : Ga} {b : Nat} {ad : Nat → Nat} {nt : Nat} {z : Nat → Nat} {r9 : Int32} {m9 : Mem} (X : Cx Γ b cX10_not3 4 RX10 (some .int) rmX10_not3) (hret : ∀ (pc : Nat) (lv : List (Nat × Value)), decode cX10_not3 pc = .ok (.ireturn, 1) → narrow .int (.int r9) = .int r9 → Go Γ b (sg ad nt z) 0 0 pc lv [.int r9] m9) (v1 : Int32) (s0 : Int32) (m0 : Mem) (hf : X10_not3_93 v1 s0 m0 = some (r9, m9)) : Go Γ b (sg ad nt z) 0 0 93 [(0, .ref (ad 63)), (1, .int v1)] [.int s0] m0 := by
  refine g_istore_n X (lv' := [(2, .int s0), (0, .ref (ad 63)), (1, .int v1)]) dX10_not3_93 rfl (by decide) rfl ?_
  refine g_aload_n X 1 dX10_not3_94 rfl rfl ?_
  obtain ⟨m95, h95, hf⟩ := bv_i hf
  refine g_eVV X 63 9 [] kV_X10_196 (c_X10_next h95) dX10_not3_95 rfl rfl (sgN (by decide)) rfl (by decide) rfl rfl ⟨(Nat.le_of_ble_eq_true rfl), (Nat.le_of_ble_eq_true rfl)⟩ ⟨rfl, rfl⟩ ⟨(Nat.zero_le _), (Nat.zero_le _)⟩ (Nat.le_of_ble_eq_true rfl) ?_
  refine g_aload_n X 1 dX10_not3_98 rfl rfl ?_
  obtain ⟨r99, m99, h99, hf⟩ := bi_i hf
  refine g_eVI X 63 9 [] kV_X10_278 (c_X10_added3 h99) dX10_not3_99 rfl rfl (sgN (by decide)) rfl (by decide) rfl rfl ⟨(Nat.le_of_ble_eq_true rfl), (Nat.le_of_ble_eq_true rfl)⟩ ⟨rfl, rfl⟩ ⟨(Nat.zero_le _), (Nat.zero_le _)⟩ (Nat.le_of_ble_eq_true rfl) ?_
  refine g_istore_n X (lv' := [(3, .int r99), (2, .int s0), (0, .ref (ad 63)), (1, .int v1)]) dX10_not3_102 rfl (by decide) rfl ?_
  refine g_iload_n X 1 dX10_not3_103 rfl rfl ?_
  refine g_if_eq X (tgt := 115) dX10_not3_104 (by decide) (fun c104 => ?_) (fun c104 => ?_)
  · have hf := it c104 hf
    refine g_iload_n X 3 dX10_not3_115 rfl rfl ?_
    refine g_iload_n X 0 dX10_not3_116 rfl rfl ?_
    refine g_icmp_ne X (tgt := 124) dX10_not3_117 (by decide) (fun c117 => ?_) (fun c117 => ?_)
    · have hf := ie c117 hf
      refine g_iconst X (v := 0) dX10_not3_124 (by decide) ?_
      obtain ⟨rfl, rfl⟩ := lf2 hf
      exact hret 125 _ dX10_not3_125 rfl
    · have hf := it c117 hf
      refine g_iconst X (v := 1) dX10_not3_120 (by decide) ?_
      refine g_goto X (tgt := 125) dX10_not3_121 (by decide) ?_
      obtain ⟨rfl, rfl⟩ := lf2 hf
      exact hret 125 _ dX10_not3_125 rfl
  · have hf := ie c104 hf
    refine g_iload_n X 3 dX10_not3_107 rfl rfl ?_
    refine g_iload_n X 0 dX10_not3_108 rfl rfl ?_
    refine g_icmp_ge X (tgt := 124) dX10_not3_109 (by decide) (fun c109 => ?_) (fun c109 => ?_)
    · have hf := it c109 hf
      refine g_iconst X (v := 0) dX10_not3_124 (by decide) ?_
      obtain ⟨rfl, rfl⟩ := lf2 hf
      exact hret 125 _ dX10_not3_125 rfl
    · have hf := ie c109 hf
      refine g_goto X (tgt := 120) dX10_not3_112 (by decide) ?_
      refine g_iconst X (v := 1) dX10_not3_120 (by decide) ?_
      refine g_goto X (tgt := 125) dX10_not3_121 (by decide) ?_
      obtain ⟨rfl, rfl⟩ := lf2 hf
      exact hret 125 _ dX10_not3_125 rfl
set_option maxRecDepth 100000 in
set_option maxHeartbeats 4000000 in
theorem w_X10_not3_77 {Γ : Ga} {b : Nat} {ad : Nat → Nat} {nt : Nat} {z : Nat → Nat} {r9 : Int32} {m9 : Mem} (X : Cx Γ b cX10_not3 4 RX10 (some .int) rmX10_not3) (hret : ∀ (pc : Nat) (lv : List (Nat × Value)), decode cX10_not3 pc = .ok (.ireturn, 1) → narrow .int (.int r9) = .int r9 → Go Γ b (sg ad nt z) 0 0 pc lv [.int r9] m9) (v1 : Int32) (m0 : Mem) (hf : X10_not3_77 v1 m0 = some (r9, m9)) : Go Γ b (sg ad nt z) 0 0 77 [(0, .ref (ad 63)), (1, .int v1)] [] m0 := by
  refine g_aload_n X 0 dX10_not3_77 rfl rfl ?_
  refine g_getJ X 63 9 24 dX10_not3_78 (sgN (by decide)) rfl (by decide) rfl iw_X10 (by decide) rfl q_fl_X10_176 ?_
  refine g_ldc2 X dX10_not3_81 q_cl_X10_243 ?_
  refine g_lcmp X dX10_not3_84 ?_
  refine g_if_ne X (tgt := 92) dX10_not3_85 (by decide) (fun c85 => ?_) (fun c85 => ?_)
  · have hf := ie c85 hf
    refine g_iconst X (v := 0) dX10_not3_92 (by decide) ?_
    exact w_X10_not3_93 X hret v1 (0 : Int32) m0 hf
  · have hf := it c85 hf
    refine g_iconst X (v := 1) dX10_not3_88 (by decide) ?_
    refine g_goto X (tgt := 93) dX10_not3_89 (by decide) ?_
    exact w_X10_not3_93 X hret v1 (1 : Int32) m0 hf
set_option maxRecDepth 100000 in
set_option maxHeartbeats 4000000 in
theorem c_X10_not3 {l : Launch} {G : GG} {b : Nat} {ad : Nat → Nat} {nt : Nat} {z : Nat → Nat} {m0 : Mem} {r9 : Int32} {m9 : Mem} (hf : X10_not3 m0 = some (r9, m9)) : MtI l yX10_not3 cX10_not3 4 (some .int) rmX10_not3 G b (sg ad nt z) m0 [.ref (ad 63)] (pEI r9 (sg ad nt z) m9) := by
  refine mtI_of (by decide) (Nat.le_of_ble_eq_true rfl) .int rfl (fun Γ hG X hnm hr => ?_)
  have hret : ∀ (pc : Nat) (lv : List (Nat × Value)), decode cX10_not3 pc = .ok (.ireturn, 1) → narrow .int (.int r9) = .int r9 → Go Γ b (sg ad nt z) 0 0 pc lv [.int r9] m9 := fun pc lv d hn => hr pc lv _ _ _ d ⟨rfl, rfl, rfl⟩ hn
  show Go Γ b (sg ad nt z) 0 0 0 [(0, .ref (ad 63))] [] m0
  refine g_aload_n X 0 dX10_not3_0 rfl rfl ?_
  refine g_bipush X (v := 110) dX10_not3_1 (by decide) ?_
  refine g_bipush X (v := 111) dX10_not3_3 (by decide) ?_
  refine g_bipush X (v := 116) dX10_not3_5 (by decide) ?_
  refine g_iconst X (v := 0) dX10_not3_7 (by decide) ?_
  refine g_iconst X (v := 0) dX10_not3_8 (by decide) ?_
  refine g_iconst X (v := 0) dX10_not3_9 (by decide) ?_
  refine g_iconst X (v := 0) dX10_not3_10 (by decide) ?_
  refine g_iconst X (v := 0) dX10_not3_11 (by decide) ?_
  obtain ⟨r12, m12, h12, hf⟩ := bi_i hf
  refine g_eVI X 63 9 [.int (110 : Int32), .int (111 : Int32), .int (116 : Int32), .int (0 : Int32), .int (0 : Int32), .int (0 : Int32), .int (0 : Int32), .int (0 : Int32)] kV_X10_199 (c_X10_isWord h12) dX10_not3_12 rfl rfl (sgN (by decide)) rfl (by decide) rfl rfl ⟨(Nat.le_of_ble_eq_true rfl), (Nat.le_of_ble_eq_true rfl)⟩ ⟨rfl, rfl⟩ ⟨(Nat.zero_le _), (Nat.zero_le _)⟩ (Nat.le_of_ble_eq_true rfl) ?_
  refine g_if_eq X (tgt := 52) dX10_not3_15 (by decide) (fun c15 => ?_) (fun c15 => ?_)
  · have hf := it c15 hf
    refine g_aload_n X 0 dX10_not3_52 rfl rfl ?_
    obtain ⟨r53, m53, h53, hf⟩ := bi_i hf
    refine g_eVI X 63 9 [] kV_X10_278 (c_X10_added3 h53) dX10_not3_53 rfl rfl (sgN (by decide)) rfl (by decide) rfl rfl ⟨(Nat.le_of_ble_eq_true rfl), (Nat.le_of_ble_eq_true rfl)⟩ ⟨rfl, rfl⟩ ⟨(Nat.zero_le _), (Nat.zero_le _)⟩ (Nat.le_of_ble_eq_true rfl) ?_
    refine g_istore_n X (lv' := [(1, .int r53), (0, .ref (ad 63))]) dX10_not3_56 rfl (by decide) rfl ?_
    refine g_aload_n X 1 dX10_not3_57 rfl rfl ?_
    refine g_bipush X (v := 60) dX10_not3_58 (by decide) ?_
    obtain ⟨r60, m60, h60, hf⟩ := bi_i hf
    refine g_eVI X 63 9 [.int (60 : Int32)] kV_X10_221 (c_X10_isSign h60) dX10_not3_60 rfl rfl (sgN (by decide)) rfl (by decide) rfl rfl ⟨(Nat.le_of_ble_eq_true rfl), (Nat.le_of_ble_eq_true rfl)⟩ ⟨rfl, rfl⟩ ⟨(Nat.zero_le _), (Nat.zero_le _)⟩ (Nat.le_of_ble_eq_true rfl) ?_
    refine g_if_ne X (tgt := 77) dX10_not3_63 (by decide) (fun c63 => ?_) (fun c63 => ?_)
    · have hf := ie c63 hf
      refine g_pick [1, 0] (lv' := [(0, .ref (ad 63)), (1, .int r53)]) rfl ?_
      exact w_X10_not3_77 X hret r53 m60 hf
    · have hf := it c63 hf
      refine g_aload_n X 1 dX10_not3_66 rfl rfl ?_
      refine g_bipush X (v := 61) dX10_not3_67 (by decide) ?_
      obtain ⟨r69, m69, h69, hf⟩ := bi_i hf
      refine g_eVI X 63 9 [.int (61 : Int32)] kV_X10_221 (c_X10_isSign h69) dX10_not3_69 rfl rfl (sgN (by decide)) rfl (by decide) rfl rfl ⟨(Nat.le_of_ble_eq_true rfl), (Nat.le_of_ble_eq_true rfl)⟩ ⟨rfl, rfl⟩ ⟨(Nat.zero_le _), (Nat.zero_le _)⟩ (Nat.le_of_ble_eq_true rfl) ?_
      refine g_if_ne X (tgt := 77) dX10_not3_72 (by decide) (fun c72 => ?_) (fun c72 => ?_)
      · have hf := ie c72 hf
        refine g_pick [1, 0] (lv' := [(0, .ref (ad 63)), (1, .int r53)]) rfl ?_
        exact w_X10_not3_77 X hret r53 m69 hf
      · have hf := it c72 hf
        refine g_iload_n X 0 dX10_not3_75 rfl rfl ?_
        obtain ⟨rfl, rfl⟩ := lf2 hf
        exact hret 76 _ dX10_not3_76 rfl
  · have hf := ie c15 hf
    refine g_aload_n X 0 dX10_not3_18 rfl rfl ?_
    obtain ⟨r19, m19, h19, hf⟩ := bi_i hf
    refine g_eVI X 63 9 [] kV_X10_224 (c_X10_opens h19) dX10_not3_19 rfl rfl (sgN (by decide)) rfl (by decide) rfl rfl ⟨(Nat.le_of_ble_eq_true rfl), (Nat.le_of_ble_eq_true rfl)⟩ ⟨rfl, rfl⟩ ⟨(Nat.zero_le _), (Nat.zero_le _)⟩ (Nat.le_of_ble_eq_true rfl) ?_
    refine g_if_ne X (tgt := 27) dX10_not3_22 (by decide) (fun c22 => ?_) (fun c22 => ?_)
    · have hf := ie c22 hf
      refine g_aload_n X 0 dX10_not3_27 rfl rfl ?_
      obtain ⟨r28, m28, h28, hf⟩ := bi_i hf
      refine g_eVI X 63 9 [] kV_X10_263 (c_X10_not4 h28) dX10_not3_28 rfl rfl (sgN (by decide)) rfl (by decide) rfl rfl ⟨(Nat.le_of_ble_eq_true rfl), (Nat.le_of_ble_eq_true rfl)⟩ ⟨rfl, rfl⟩ ⟨(Nat.zero_le _), (Nat.zero_le _)⟩ (Nat.le_of_ble_eq_true rfl) ?_
      refine g_istore_n X (lv' := [(1, .int r28), (0, .ref (ad 63))]) dX10_not3_31 rfl (by decide) rfl ?_
      refine g_aload_n X 1 dX10_not3_32 rfl rfl ?_
      refine g_dup X dX10_not3_33 rfl ?_
      refine g_getI X 63 9 25 dX10_not3_34 (sgN (by decide)) rfl (by decide) rfl iw_X10 (by decide) rfl q_fl_X10_190 ?_
      refine g_iconst X (v := 1) dX10_not3_37 (by decide) ?_
      refine g_isub X dX10_not3_38 ?_
      refine g_putI X (tyf := tyX10) 63 9 25 dX10_not3_39 (sgN (by decide)) rfl (by decide) rfl iw_X10 (by decide) rfl q_fl_X10_190 tyX10_ok nmX10 rfl rfl rfl ?_
      refine g_iload_n X 0 dX10_not3_42 rfl rfl ?_
      refine g_if_ne X (tgt := 50) dX10_not3_43 (by decide) (fun c43 => ?_) (fun c43 => ?_)
      · have hf := ie c43 hf
        refine g_iconst X (v := 0) dX10_not3_50 (by decide) ?_
        obtain ⟨rfl, rfl⟩ := lf2 hf
        exact hret 51 _ dX10_not3_51 rfl
      · have hf := it c43 hf
        refine g_iconst X (v := 1) dX10_not3_46 (by decide) ?_
        refine g_goto X (tgt := 51) dX10_not3_47 (by decide) ?_
        obtain ⟨rfl, rfl⟩ := lf2 hf
        exact hret 51 _ dX10_not3_51 rfl
    · have hf := it c22 hf
      refine g_iconst X (v := 0) dX10_not3_25 (by decide) ?_
      obtain ⟨rfl, rfl⟩ := lf2 hf
      exact hret 26 _ dX10_not3_26 rfl

theorem kV_X10_281 : wcV RX10 281 RX10 yX10_not3 cX10_not3 4 (some .int) 0 := ⟨q_ml_X10_281, q_im_yX10_not3, q_se_yX10_not3, q_in_X10, q_co_yX10_not3, by decide +kernel⟩

def X10_both3_45 (k5 : Int32 → Mem → Option (Int32 × Mem)) (s0 : Int32) (m0 : Mem) : Option (Int32 × Mem) :=
  k5 s0 m0
def X10_both3_44 (k5 : Int32 → Mem → Option (Int32 × Mem)) (m0 : Mem) : Option (Int32 × Mem) :=
  X10_both3_45 k5 (0 : Int32) m0
def X10_both3_5 : Nat → Int32 → Mem → Option (Int32 × Mem)
  | 0, _, _ => none
  | n + 1, v1, m0 =>
    bi (X10_isWord (97 : Int32) (110 : Int32) (100 : Int32) (0 : Int32) (0 : Int32) (0 : Int32) (0 : Int32) (0 : Int32) m0) fun r17 m17 =>
    if r17 = 0 then
      some (v1, m17)
    else
      bv (X10_next m17) fun m24 =>
      bi (X10_not3 m24) fun r28 m28 =>
      if v1 = 0 then
        X10_both3_44 (X10_both3_5 n) m28
      else
        if r28 = 0 then
          X10_both3_44 (X10_both3_5 n) m28
        else
          X10_both3_45 (X10_both3_5 n) (1 : Int32) m28
def X10_both3 (m0 : Mem) : Option (Int32 × Mem) :=
  bi (X10_not3 m0) fun r1 m1 =>
  X10_both3_5 10000 r1 m1
abbrev rmX10_both3 : Room := { frames := 20, cells := 0, slots := 0, locals := 443 }
set_option maxRecDepth 100000 in
set_option maxHeartbeats 4000000 in
theorem w_X10_both3_45 {Γ : Ga} {b : Nat} {ad : Nat → Nat} {nt : Nat} {z : Nat → Nat} {k5 : Int32 → Mem → Option (Int32 × Mem)} {r9 : Int32} {m9 : Mem} (X : Cx Γ b cX10_both3 3 RX10 (some .int) rmX10_both3) (hret : ∀ (pc : Nat) (lv : List (Nat × Value)), decode cX10_both3 pc = .ok (.ireturn, 1) → narrow .int (.int r9) = .int r9 → Go Γ b (sg ad nt z) 0 0 pc lv [.int r9] m9) (hk5 : ∀ (v1 : Int32) (m0 : Mem), k5 v1 m0 = some (r9, m9) → Go Γ b (sg ad nt z) 0 0 5 [(0, .ref (ad 63)), (1, .int v1)] [] m0) (s0 : Int32) (m0 : Mem) (hf : X10_both3_45 k5 s0 m0 = some (r9, m9)) : Go Γ b (sg ad nt z) 0 0 45 [(0, .ref (ad 63))] [.int s0] m0 := by
  refine g_istore_n X (lv' := [(1, .int s0), (0, .ref (ad 63))]) dX10_both3_45 rfl (by decide) rfl ?_
  refine g_goto X (tgt := 5) dX10_both3_46 (by decide) ?_
  refine g_pick [1, 0] (lv' := [(0, .ref (ad 63)), (1, .int s0)]) rfl ?_
  exact hk5 s0 m0 hf
set_option maxRecDepth 100000 in
set_option maxHeartbeats 4000000 in
theorem w_X10_both3_44 {Γ : Ga} {b : Nat} {ad : Nat → Nat} {nt : Nat} {z : Nat → Nat} {k5 : Int32 → Mem → Option (Int32 × Mem)} {r9 : Int32} {m9 : Mem} (X : Cx Γ b cX10_both3 3 RX10 (some .int) rmX10_both3) (hret : ∀ (pc : Nat) (lv : List (Nat × Value)), decode cX10_both3 pc = .ok (.ireturn, 1) → narrow .int (.int r9) = .int r9 → Go Γ b (sg ad nt z) 0 0 pc lv [.int r9] m9) (hk5 : ∀ (v1 : Int32) (m0 : Mem), k5 v1 m0 = some (r9, m9) → Go Γ b (sg ad nt z) 0 0 5 [(0, .ref (ad 63)), (1, .int v1)] [] m0) (m0 : Mem) (hf : X10_both3_44 k5 m0 = some (r9, m9)) : Go Γ b (sg ad nt z) 0 0 44 [(0, .ref (ad 63))] [] m0 := by
  refine g_iconst X (v := 0) dX10_both3_44 (by decide) ?_
  exact w_X10_both3_45 X hret hk5 (0 : Int32) m0 hf
set_option maxRecDepth 100000 in
set_option maxHeartbeats 4000000 in
theorem w_X10_both3_5 {Γ : Ga} {b : Nat} {ad : Nat → Nat} {nt : Nat} {z : Nat → Nat} {r9 : Int32} {m9 : Mem} (X : Cx Γ b cX10_both3 3 RX10 (some .int) rmX10_both3) (hret : ∀ (pc : Nat) (lv : List (Nat × Value)), decode cX10_both3 pc = .ok (.ireturn, 1) → narrow .int (.int r9) = .int r9 → Go Γ b (sg ad nt z) 0 0 pc lv [.int r9] m9) : ∀ (n : Nat) (v1 : Int32) (m0 : Mem), X10_both3_5 n v1 m0 = some (r9, m9) → Go Γ b (sg ad nt z) 0 0 5 [(0, .ref (ad 63)), (1, .int v1)] [] m0 := by
  intro n
  induction n with
  | zero =>
    intro v1 m0 hf
    cases hf
  | succ n ih =>
    intro v1 m0 hf
    refine g_aload_n X 0 dX10_both3_5 rfl rfl ?_
    refine g_bipush X (v := 97) dX10_both3_6 (by decide) ?_
    refine g_bipush X (v := 110) dX10_both3_8 (by decide) ?_
    refine g_bipush X (v := 100) dX10_both3_10 (by decide) ?_
    refine g_iconst X (v := 0) dX10_both3_12 (by decide) ?_
    refine g_iconst X (v := 0) dX10_both3_13 (by decide) ?_
    refine g_iconst X (v := 0) dX10_both3_14 (by decide) ?_
    refine g_iconst X (v := 0) dX10_both3_15 (by decide) ?_
    refine g_iconst X (v := 0) dX10_both3_16 (by decide) ?_
    obtain ⟨r17, m17, h17, hf⟩ := bi_i hf
    refine g_eVI X 63 9 [.int (97 : Int32), .int (110 : Int32), .int (100 : Int32), .int (0 : Int32), .int (0 : Int32), .int (0 : Int32), .int (0 : Int32), .int (0 : Int32)] kV_X10_199 (c_X10_isWord h17) dX10_both3_17 rfl rfl (sgN (by decide)) rfl (by decide) rfl rfl ⟨(Nat.le_of_ble_eq_true rfl), (Nat.le_of_ble_eq_true rfl)⟩ ⟨rfl, rfl⟩ ⟨(Nat.zero_le _), (Nat.zero_le _)⟩ (Nat.le_of_ble_eq_true rfl) ?_
    refine g_if_eq X (tgt := 49) dX10_both3_20 (by decide) (fun c20 => ?_) (fun c20 => ?_)
    · have hf := it c20 hf
      refine g_iload_n X 1 dX10_both3_49 rfl rfl ?_
      obtain ⟨rfl, rfl⟩ := lf2 hf
      exact hret 50 _ dX10_both3_50 rfl
    · have hf := ie c20 hf
      refine g_aload_n X 0 dX10_both3_23 rfl rfl ?_
      obtain ⟨m24, h24, hf⟩ := bv_i hf
      refine g_eVV X 63 9 [] kV_X10_196 (c_X10_next h24) dX10_both3_24 rfl rfl (sgN (by decide)) rfl (by decide) rfl rfl ⟨(Nat.le_of_ble_eq_true rfl), (Nat.le_of_ble_eq_true rfl)⟩ ⟨rfl, rfl⟩ ⟨(Nat.zero_le _), (Nat.zero_le _)⟩ (Nat.le_of_ble_eq_true rfl) ?_
      refine g_aload_n X 0 dX10_both3_27 rfl rfl ?_
      obtain ⟨r28, m28, h28, hf⟩ := bi_i hf
      refine g_eVI X 63 9 [] kV_X10_281 (c_X10_not3 h28) dX10_both3_28 rfl rfl (sgN (by decide)) rfl (by decide) rfl rfl ⟨(Nat.le_of_ble_eq_true rfl), (Nat.le_of_ble_eq_true rfl)⟩ ⟨rfl, rfl⟩ ⟨(Nat.zero_le _), (Nat.zero_le _)⟩ (Nat.le_of_ble_eq_true rfl) ?_
      refine g_istore_n X (lv' := [(2, .int r28), (0, .ref (ad 63)), (1, .int v1)]) dX10_both3_31 rfl (by decide) rfl ?_
      refine g_iload_n X 2 dX10_both3_32 rfl rfl ?_
      refine g_if_eq X (tgt := 44) dX10_both3_33 (by decide) (fun c33 => ?_) (fun c33 => ?_)
      · have hf := it c33 hf
        refine g_pick [1] (lv' := [(0, .ref (ad 63))]) rfl ?_
        exact w_X10_both3_44 X hret ih m28 hf
      · have hf := ie c33 hf
        refine g_iload_n X 0 dX10_both3_36 rfl rfl ?_
        refine g_if_eq X (tgt := 44) dX10_both3_37 (by decide) (fun c37 => ?_) (fun c37 => ?_)
        · have hf := it c37 hf
          refine g_pick [1] (lv' := [(0, .ref (ad 63))]) rfl ?_
          exact w_X10_both3_44 X hret ih m28 hf
        · have hf := ie c37 hf
          refine g_iconst X (v := 1) dX10_both3_40 (by decide) ?_
          refine g_goto X (tgt := 45) dX10_both3_41 (by decide) ?_
          refine g_pick [1] (lv' := [(0, .ref (ad 63))]) rfl ?_
          exact w_X10_both3_45 X hret ih (1 : Int32) m28 hf
set_option maxRecDepth 100000 in
set_option maxHeartbeats 4000000 in
theorem c_X10_both3 {l : Launch} {G : GG} {b : Nat} {ad : Nat → Nat} {nt : Nat} {z : Nat → Nat} {m0 : Mem} {r9 : Int32} {m9 : Mem} (hf : X10_both3 m0 = some (r9, m9)) : MtI l yX10_both3 cX10_both3 3 (some .int) rmX10_both3 G b (sg ad nt z) m0 [.ref (ad 63)] (pEI r9 (sg ad nt z) m9) := by
  refine mtI_of (by decide) (Nat.le_of_ble_eq_true rfl) .int rfl (fun Γ hG X hnm hr => ?_)
  have hret : ∀ (pc : Nat) (lv : List (Nat × Value)), decode cX10_both3 pc = .ok (.ireturn, 1) → narrow .int (.int r9) = .int r9 → Go Γ b (sg ad nt z) 0 0 pc lv [.int r9] m9 := fun pc lv d hn => hr pc lv _ _ _ d ⟨rfl, rfl, rfl⟩ hn
  show Go Γ b (sg ad nt z) 0 0 0 [(0, .ref (ad 63))] [] m0
  refine g_aload_n X 0 dX10_both3_0 rfl rfl ?_
  obtain ⟨r1, m1, h1, hf⟩ := bi_i hf
  refine g_eVI X 63 9 [] kV_X10_281 (c_X10_not3 h1) dX10_both3_1 rfl rfl (sgN (by decide)) rfl (by decide) rfl rfl ⟨(Nat.le_of_ble_eq_true rfl), (Nat.le_of_ble_eq_true rfl)⟩ ⟨rfl, rfl⟩ ⟨(Nat.zero_le _), (Nat.zero_le _)⟩ (Nat.le_of_ble_eq_true rfl) ?_
  refine g_istore_n X (lv' := [(1, .int r1), (0, .ref (ad 63))]) dX10_both3_4 rfl (by decide) rfl ?_
  refine g_pick [1, 0] (lv' := [(0, .ref (ad 63)), (1, .int r1)]) rfl ?_
  exact w_X10_both3_5 X hret 10000 r1 m1 hf

theorem kV_X10_284 : wcV RX10 284 RX10 yX10_both3 cX10_both3 3 (some .int) 0 := ⟨q_ml_X10_284, q_im_yX10_both3, q_se_yX10_both3, q_in_X10, q_co_yX10_both3, by decide +kernel⟩

def X10_either3_44 (k5 : Int32 → Mem → Option (Int32 × Mem)) (s0 : Int32) (m0 : Mem) : Option (Int32 × Mem) :=
  k5 s0 m0
def X10_either3_39 (k5 : Int32 → Mem → Option (Int32 × Mem)) (m0 : Mem) : Option (Int32 × Mem) :=
  X10_either3_44 k5 (1 : Int32) m0
def X10_either3_5 : Nat → Int32 → Mem → Option (Int32 × Mem)
  | 0, _, _ => none
  | n + 1, v1, m0 =>
    bi (X10_isWord (111 : Int32) (114 : Int32) (0 : Int32) (0 : Int32) (0 : Int32) (0 : Int32) (0 : Int32) (0 : Int32) m0) fun r16 m16 =>
    if r16 = 0 then
      some (v1, m16)
    else
      bv (X10_next m16) fun m23 =>
      bi (X10_both3 m23) fun r27 m27 =>
      if v1 = 0 then
        if r27 = 0 then
          X10_either3_44 (X10_either3_5 n) (0 : Int32) m27
        else
          X10_either3_39 (X10_either3_5 n) m27
      else
        X10_either3_39 (X10_either3_5 n) m27
def X10_either3 (m0 : Mem) : Option (Int32 × Mem) :=
  bi (X10_both3 m0) fun r1 m1 =>
  X10_either3_5 10000 r1 m1
abbrev rmX10_either3 : Room := { frames := 21, cells := 0, slots := 0, locals := 465 }
set_option maxRecDepth 100000 in
set_option maxHeartbeats 4000000 in
theorem w_X10_either3_44 {Γ : Ga} {b : Nat} {ad : Nat → Nat} {nt : Nat} {z : Nat → Nat} {k5 : Int32 → Mem → Option (Int32 × Mem)} {r9 : Int32} {m9 : Mem} (X : Cx Γ b cX10_either3 3 RX10 (some .int) rmX10_either3) (hret : ∀ (pc : Nat) (lv : List (Nat × Value)), decode cX10_either3 pc = .ok (.ireturn, 1) → narrow .int (.int r9) = .int r9 → Go Γ b (sg ad nt z) 0 0 pc lv [.int r9] m9) (hk5 : ∀ (v1 : Int32) (m0 : Mem), k5 v1 m0 = some (r9, m9) → Go Γ b (sg ad nt z) 0 0 5 [(0, .ref (ad 63)), (1, .int v1)] [] m0) (s0 : Int32) (m0 : Mem) (hf : X10_either3_44 k5 s0 m0 = some (r9, m9)) : Go Γ b (sg ad nt z) 0 0 44 [(0, .ref (ad 63))] [.int s0] m0 := by
  refine g_istore_n X (lv' := [(1, .int s0), (0, .ref (ad 63))]) dX10_either3_44 rfl (by decide) rfl ?_
  refine g_goto X (tgt := 5) dX10_either3_45 (by decide) ?_
  refine g_pick [1, 0] (lv' := [(0, .ref (ad 63)), (1, .int s0)]) rfl ?_
  exact hk5 s0 m0 hf
set_option maxRecDepth 100000 in
set_option maxHeartbeats 4000000 in
theorem w_X10_either3_39 {Γ : Ga} {b : Nat} {ad : Nat → Nat} {nt : Nat} {z : Nat → Nat} {k5 : Int32 → Mem → Option (Int32 × Mem)} {r9 : Int32} {m9 : Mem} (X : Cx Γ b cX10_either3 3 RX10 (some .int) rmX10_either3) (hret : ∀ (pc : Nat) (lv : List (Nat × Value)), decode cX10_either3 pc = .ok (.ireturn, 1) → narrow .int (.int r9) = .int r9 → Go Γ b (sg ad nt z) 0 0 pc lv [.int r9] m9) (hk5 : ∀ (v1 : Int32) (m0 : Mem), k5 v1 m0 = some (r9, m9) → Go Γ b (sg ad nt z) 0 0 5 [(0, .ref (ad 63)), (1, .int v1)] [] m0) (m0 : Mem) (hf : X10_either3_39 k5 m0 = some (r9, m9)) : Go Γ b (sg ad nt z) 0 0 39 [(0, .ref (ad 63))] [] m0 := by
  refine g_iconst X (v := 1) dX10_either3_39 (by decide) ?_
  refine g_goto X (tgt := 44) dX10_either3_40 (by decide) ?_
  exact w_X10_either3_44 X hret hk5 (1 : Int32) m0 hf
set_option maxRecDepth 100000 in
set_option maxHeartbeats 4000000 in
theorem w_X10_either3_5 {Γ : Ga} {b : Nat} {ad : Nat → Nat} {nt : Nat} {z : Nat → Nat} {r9 : Int32} {m9 : Mem} (X : Cx Γ b cX10_either3 3 RX10 (some .int) rmX10_either3) (hret : ∀ (pc : Nat) (lv : List (Nat × Value)), decode cX10_either3 pc = .ok (.ireturn, 1) → narrow .int (.int r9) = .int r9 → Go Γ b (sg ad nt z) 0 0 pc lv [.int r9] m9) : ∀ (n : Nat) (v1 : Int32) (m0 : Mem), X10_either3_5 n v1 m0 = some (r9, m9) → Go Γ b (sg ad nt z) 0 0 5 [(0, .ref (ad 63)), (1, .int v1)] [] m0 := by
  intro n
  induction n with
  | zero =>
    intro v1 m0 hf
    cases hf
  | succ n ih =>
    intro v1 m0 hf
    refine g_aload_n X 0 dX10_either3_5 rfl rfl ?_
    refine g_bipush X (v := 111) dX10_either3_6 (by decide) ?_
    refine g_bipush X (v := 114) dX10_either3_8 (by decide) ?_
    refine g_iconst X (v := 0) dX10_either3_10 (by decide) ?_
    refine g_iconst X (v := 0) dX10_either3_11 (by decide) ?_
    refine g_iconst X (v := 0) dX10_either3_12 (by decide) ?_
    refine g_iconst X (v := 0) dX10_either3_13 (by decide) ?_
    refine g_iconst X (v := 0) dX10_either3_14 (by decide) ?_
    refine g_iconst X (v := 0) dX10_either3_15 (by decide) ?_
    obtain ⟨r16, m16, h16, hf⟩ := bi_i hf
    refine g_eVI X 63 9 [.int (111 : Int32), .int (114 : Int32), .int (0 : Int32), .int (0 : Int32), .int (0 : Int32), .int (0 : Int32), .int (0 : Int32), .int (0 : Int32)] kV_X10_199 (c_X10_isWord h16) dX10_either3_16 rfl rfl (sgN (by decide)) rfl (by decide) rfl rfl ⟨(Nat.le_of_ble_eq_true rfl), (Nat.le_of_ble_eq_true rfl)⟩ ⟨rfl, rfl⟩ ⟨(Nat.zero_le _), (Nat.zero_le _)⟩ (Nat.le_of_ble_eq_true rfl) ?_
    refine g_if_eq X (tgt := 48) dX10_either3_19 (by decide) (fun c19 => ?_) (fun c19 => ?_)
    · have hf := it c19 hf
      refine g_iload_n X 1 dX10_either3_48 rfl rfl ?_
      obtain ⟨rfl, rfl⟩ := lf2 hf
      exact hret 49 _ dX10_either3_49 rfl
    · have hf := ie c19 hf
      refine g_aload_n X 0 dX10_either3_22 rfl rfl ?_
      obtain ⟨m23, h23, hf⟩ := bv_i hf
      refine g_eVV X 63 9 [] kV_X10_196 (c_X10_next h23) dX10_either3_23 rfl rfl (sgN (by decide)) rfl (by decide) rfl rfl ⟨(Nat.le_of_ble_eq_true rfl), (Nat.le_of_ble_eq_true rfl)⟩ ⟨rfl, rfl⟩ ⟨(Nat.zero_le _), (Nat.zero_le _)⟩ (Nat.le_of_ble_eq_true rfl) ?_
      refine g_aload_n X 0 dX10_either3_26 rfl rfl ?_
      obtain ⟨r27, m27, h27, hf⟩ := bi_i hf
      refine g_eVI X 63 9 [] kV_X10_284 (c_X10_both3 h27) dX10_either3_27 rfl rfl (sgN (by decide)) rfl (by decide) rfl rfl ⟨(Nat.le_of_ble_eq_true rfl), (Nat.le_of_ble_eq_true rfl)⟩ ⟨rfl, rfl⟩ ⟨(Nat.zero_le _), (Nat.zero_le _)⟩ (Nat.le_of_ble_eq_true rfl) ?_
      refine g_istore_n X (lv' := [(2, .int r27), (0, .ref (ad 63)), (1, .int v1)]) dX10_either3_30 rfl (by decide) rfl ?_
      refine g_iload_n X 2 dX10_either3_31 rfl rfl ?_
      refine g_if_ne X (tgt := 39) dX10_either3_32 (by decide) (fun c32 => ?_) (fun c32 => ?_)
      · have hf := ie c32 hf
        refine g_pick [1] (lv' := [(0, .ref (ad 63))]) rfl ?_
        exact w_X10_either3_39 X hret ih m27 hf
      · have hf := it c32 hf
        refine g_iload_n X 0 dX10_either3_35 rfl rfl ?_
        refine g_if_eq X (tgt := 43) dX10_either3_36 (by decide) (fun c36 => ?_) (fun c36 => ?_)
        · have hf := it c36 hf
          refine g_iconst X (v := 0) dX10_either3_43 (by decide) ?_
          refine g_pick [1] (lv' := [(0, .ref (ad 63))]) rfl ?_
          exact w_X10_either3_44 X hret ih (0 : Int32) m27 hf
        · have hf := ie c36 hf
          refine g_pick [1] (lv' := [(0, .ref (ad 63))]) rfl ?_
          exact w_X10_either3_39 X hret ih m27 hf
set_option maxRecDepth 100000 in
set_option maxHeartbeats 4000000 in
theorem c_X10_either3 {l : Launch} {G : GG} {b : Nat} {ad : Nat → Nat} {nt : Nat} {z : Nat → Nat} {m0 : Mem} {r9 : Int32} {m9 : Mem} (hf : X10_either3 m0 = some (r9, m9)) : MtI l yX10_either3 cX10_either3 3 (some .int) rmX10_either3 G b (sg ad nt z) m0 [.ref (ad 63)] (pEI r9 (sg ad nt z) m9) := by
  refine mtI_of (by decide) (Nat.le_of_ble_eq_true rfl) .int rfl (fun Γ hG X hnm hr => ?_)
  have hret : ∀ (pc : Nat) (lv : List (Nat × Value)), decode cX10_either3 pc = .ok (.ireturn, 1) → narrow .int (.int r9) = .int r9 → Go Γ b (sg ad nt z) 0 0 pc lv [.int r9] m9 := fun pc lv d hn => hr pc lv _ _ _ d ⟨rfl, rfl, rfl⟩ hn
  show Go Γ b (sg ad nt z) 0 0 0 [(0, .ref (ad 63))] [] m0
  refine g_aload_n X 0 dX10_either3_0 rfl rfl ?_
  obtain ⟨r1, m1, h1, hf⟩ := bi_i hf
  refine g_eVI X 63 9 [] kV_X10_284 (c_X10_both3 h1) dX10_either3_1 rfl rfl (sgN (by decide)) rfl (by decide) rfl rfl ⟨(Nat.le_of_ble_eq_true rfl), (Nat.le_of_ble_eq_true rfl)⟩ ⟨rfl, rfl⟩ ⟨(Nat.zero_le _), (Nat.zero_le _)⟩ (Nat.le_of_ble_eq_true rfl) ?_
  refine g_istore_n X (lv' := [(1, .int r1), (0, .ref (ad 63))]) dX10_either3_4 rfl (by decide) rfl ?_
  refine g_pick [1, 0] (lv' := [(0, .ref (ad 63)), (1, .int r1)]) rfl ?_
  exact w_X10_either3_5 X hret 10000 r1 m1 hf

theorem kV_X10_287 : wcV RX10 287 RX10 yX10_either3 cX10_either3 3 (some .int) 0 := ⟨q_ml_X10_287, q_im_yX10_either3, q_se_yX10_either3, q_in_X10, q_co_yX10_either3, by decide +kernel⟩

def X10_atom2_157 (v1 : Int32) (m0 : Mem) : Option (Int32 × Mem) :=
  bv (X10_fail m0) fun m158 =>
  some (v1, m158)
def X10_atom2_123 (v1 : Int32) (m0 : Mem) : Option (Int32 × Mem) :=
  if (m0.1 63 26) = 0 then
    if (m0.1 63 22) = (1 : Int32) then
      bi (X10_name m0) fun r139 m139 =>
      if (m139.1 63 26) = 0 then
        bv (X10_next m139) fun m151 =>
        some (r139, m151)
      else
        some (r139, m139)
    else
      X10_atom2_157 v1 m0
  else
    X10_atom2_157 v1 m0
def X10_atom2_71 (v1 : Int32) (m0 : Mem) : Option (Int32 × Mem) :=
  if ((pI m0 63 25 ((m0.1 63 25) - (1 : Int32))).1 63 26) = 0 then
    bv (X10_next (pI m0 63 25 ((m0.1 63 25) - (1 : Int32)))) fun m89 =>
    some (v1, m89)
  else
    some (v1, pI m0 63 25 ((m0.1 63 25) - (1 : Int32)))
def X10_atom2 (m0 : Mem) : Option (Int32 × Mem) :=
  bi (X10_isSign (45 : Int32) m0) fun r5 m5 =>
  if r5 = 0 then
    bi (X10_isSign (40 : Int32) m5) fun r40 m40 =>
    if r40 = 0 then
      if (m40.1 63 26) = 0 then
        if (m40.1 63 22) = (2 : Int32) then
          bv (X10_next m40) fun m117 =>
          some ((m40.2 63 24).toInt32, m117)
        else
          X10_atom2_123 (0 : Int32) m40
      else
        X10_atom2_123 (0 : Int32) m40
    else
      bi (X10_opens m40) fun r47 m47 =>
      if r47 = 0 then
        some ((0 : Int32), m47)
      else
        bi (X10_either3 m47) fun r54 m54 =>
        bi (X10_isSign (41 : Int32) m54) fun r61 m61 =>
        if r61 = 0 then
          bv (X10_fail m61) fun m68 =>
          X10_atom2_71 r54 m68
        else
          X10_atom2_71 r54 m61
  else
    bi (X10_opens m5) fun r12 m12 =>
    if r12 = 0 then
      some ((0 : Int32), m12)
    else
      bi (X10_atom3 m12) fun r19 m19 =>
      some (-r19, pI m19 63 25 ((m19.1 63 25) - (1 : Int32)))
abbrev rmX10_atom2 : Room := { frames := 22, cells := 0, slots := 0, locals := 487 }
set_option maxRecDepth 100000 in
set_option maxHeartbeats 4000000 in
theorem w_X10_atom2_157 {Γ : Ga} {b : Nat} {ad : Nat → Nat} {nt : Nat} {z : Nat → Nat} {r9 : Int32} {m9 : Mem} (X : Cx Γ b cX10_atom2 2 RX10 (some .int) rmX10_atom2) (hret : ∀ (pc : Nat) (lv : List (Nat × Value)), decode cX10_atom2 pc = .ok (.ireturn, 1) → narrow .int (.int r9) = .int r9 → Go Γ b (sg ad nt z) 0 0 pc lv [.int r9] m9) (v1 : Int32) (m0 : Mem) (hf : X10_atom2_157 v1 m0 = some (r9, m9)) : Go Γ b (sg ad nt z) 0 0 157 [(0, .ref (ad 63)), (1, .int v1)] [] m0 := by
  refine g_aload_n X 0 dX10_atom2_157 rfl rfl ?_
  obtain ⟨m158, h158, hf⟩ := bv_i hf
  refine g_eVV X 63 9 [] kV_X10_193 (c_X10_fail h158) dX10_atom2_158 rfl rfl (sgN (by decide)) rfl (by decide) rfl rfl ⟨(Nat.le_of_ble_eq_true rfl), (Nat.le_of_ble_eq_true rfl)⟩ ⟨rfl, rfl⟩ ⟨(Nat.zero_le _), (Nat.zero_le _)⟩ (Nat.le_of_ble_eq_true rfl) ?_
  refine g_iload_n X 1 dX10_atom2_161 rfl rfl ?_
  obtain ⟨rfl, rfl⟩ := lf2 hf
  exact hret 162 _ dX10_atom2_162 rfl
set_option maxRecDepth 100000 in
set_option maxHeartbeats 4000000 in
theorem w_X10_atom2_123 {Γ : Ga} {b : Nat} {ad : Nat → Nat} {nt : Nat} {z : Nat → Nat} {r9 : Int32} {m9 : Mem} (X : Cx Γ b cX10_atom2 2 RX10 (some .int) rmX10_atom2) (hret : ∀ (pc : Nat) (lv : List (Nat × Value)), decode cX10_atom2 pc = .ok (.ireturn, 1) → narrow .int (.int r9) = .int r9 → Go Γ b (sg ad nt z) 0 0 pc lv [.int r9] m9) (v1 : Int32) (m0 : Mem) (hf : X10_atom2_123 v1 m0 = some (r9, m9)) : Go Γ b (sg ad nt z) 0 0 123 [(0, .ref (ad 63)), (1, .int v1)] [] m0 := by
  refine g_aload_n X 0 dX10_atom2_123 rfl rfl ?_
  refine g_getI X 63 9 26 dX10_atom2_124 (sgN (by decide)) rfl (by decide) rfl iw_X10 (by decide) rfl q_fl_X10_180 ?_
  refine g_if_ne X (tgt := 157) dX10_atom2_127 (by decide) (fun c127 => ?_) (fun c127 => ?_)
  · have hf := ie c127 hf
    exact w_X10_atom2_157 X hret v1 m0 hf
  · have hf := it c127 hf
    refine g_aload_n X 0 dX10_atom2_130 rfl rfl ?_
    refine g_getI X 63 9 22 dX10_atom2_131 (sgN (by decide)) rfl (by decide) rfl iw_X10 (by decide) rfl q_fl_X10_165 ?_
    refine g_iconst X (v := 1) dX10_atom2_134 (by decide) ?_
    refine g_icmp_ne X (tgt := 157) dX10_atom2_135 (by decide) (fun c135 => ?_) (fun c135 => ?_)
    · have hf := ie c135 hf
      exact w_X10_atom2_157 X hret v1 m0 hf
    · have hf := it c135 hf
      refine g_aload_n X 0 dX10_atom2_138 rfl rfl ?_
      obtain ⟨r139, m139, h139, hf⟩ := bi_i hf
      refine g_eVI X 63 9 [] kV_X10_228 (c_X10_name h139) dX10_atom2_139 rfl rfl (sgN (by decide)) rfl (by decide) rfl rfl ⟨(Nat.le_of_ble_eq_true rfl), (Nat.le_of_ble_eq_true rfl)⟩ ⟨rfl, rfl⟩ ⟨(Nat.zero_le _), (Nat.zero_le _)⟩ (Nat.le_of_ble_eq_true rfl) ?_
      refine g_istore_n X (lv' := [(1, .int r139), (0, .ref (ad 63))]) dX10_atom2_142 rfl (by decide) rfl ?_
      refine g_aload_n X 1 dX10_atom2_143 rfl rfl ?_
      refine g_getI X 63 9 26 dX10_atom2_144 (sgN (by decide)) rfl (by decide) rfl iw_X10 (by decide) rfl q_fl_X10_180 ?_
      refine g_if_ne X (tgt := 161) dX10_atom2_147 (by decide) (fun c147 => ?_) (fun c147 => ?_)
      · have hf := ie c147 hf
        refine g_iload_n X 0 dX10_atom2_161 rfl rfl ?_
        obtain ⟨rfl, rfl⟩ := lf2 hf
        exact hret 162 _ dX10_atom2_162 rfl
      · have hf := it c147 hf
        refine g_aload_n X 1 dX10_atom2_150 rfl rfl ?_
        obtain ⟨m151, h151, hf⟩ := bv_i hf
        refine g_eVV X 63 9 [] kV_X10_196 (c_X10_next h151) dX10_atom2_151 rfl rfl (sgN (by decide)) rfl (by decide) rfl rfl ⟨(Nat.le_of_ble_eq_true rfl), (Nat.le_of_ble_eq_true rfl)⟩ ⟨rfl, rfl⟩ ⟨(Nat.zero_le _), (Nat.zero_le _)⟩ (Nat.le_of_ble_eq_true rfl) ?_
        refine g_goto X (tgt := 161) dX10_atom2_154 (by decide) ?_
        refine g_iload_n X 0 dX10_atom2_161 rfl rfl ?_
        obtain ⟨rfl, rfl⟩ := lf2 hf
        exact hret 162 _ dX10_atom2_162 rfl
set_option maxRecDepth 100000 in
set_option maxHeartbeats 4000000 in
theorem w_X10_atom2_71 {Γ : Ga} {b : Nat} {ad : Nat → Nat} {nt : Nat} {z : Nat → Nat} {r9 : Int32} {m9 : Mem} (X : Cx Γ b cX10_atom2 2 RX10 (some .int) rmX10_atom2) (hret : ∀ (pc : Nat) (lv : List (Nat × Value)), decode cX10_atom2 pc = .ok (.ireturn, 1) → narrow .int (.int r9) = .int r9 → Go Γ b (sg ad nt z) 0 0 pc lv [.int r9] m9) (v1 : Int32) (m0 : Mem) (hf : X10_atom2_71 v1 m0 = some (r9, m9)) : Go Γ b (sg ad nt z) 0 0 71 [(0, .ref (ad 63)), (1, .int v1)] [] m0 := by
  refine g_aload_n X 0 dX10_atom2_71 rfl rfl ?_
  refine g_dup X dX10_atom2_72 rfl ?_
  refine g_getI X 63 9 25 dX10_atom2_73 (sgN (by decide)) rfl (by decide) rfl iw_X10 (by decide) rfl q_fl_X10_190 ?_
  refine g_iconst X (v := 1) dX10_atom2_76 (by decide) ?_
  refine g_isub X dX10_atom2_77 ?_
  refine g_putI X (tyf := tyX10) 63 9 25 dX10_atom2_78 (sgN (by decide)) rfl (by decide) rfl iw_X10 (by decide) rfl q_fl_X10_190 tyX10_ok nmX10 rfl rfl rfl ?_
  refine g_aload_n X 0 dX10_atom2_81 rfl rfl ?_
  refine g_getI X 63 9 26 dX10_atom2_82 (sgN (by decide)) rfl (by decide) rfl iw_X10 (by decide) rfl q_fl_X10_180 ?_
  refine g_if_ne X (tgt := 161) dX10_atom2_85 (by decide) (fun c85 => ?_) (fun c85 => ?_)
  · have hf := ie c85 hf
    refine g_iload_n X 1 dX10_atom2_161 rfl rfl ?_
    obtain ⟨rfl, rfl⟩ := lf2 hf
    exact hret 162 _ dX10_atom2_162 rfl
  · have hf := it c85 hf
    refine g_aload_n X 0 dX10_atom2_88 rfl rfl ?_
    obtain ⟨m89, h89, hf⟩ := bv_i hf
    refine g_eVV X 63 9 [] kV_X10_196 (c_X10_next h89) dX10_atom2_89 rfl rfl (sgN (by decide)) rfl (by decide) rfl rfl ⟨(Nat.le_of_ble_eq_true rfl), (Nat.le_of_ble_eq_true rfl)⟩ ⟨rfl, rfl⟩ ⟨(Nat.zero_le _), (Nat.zero_le _)⟩ (Nat.le_of_ble_eq_true rfl) ?_
    refine g_goto X (tgt := 161) dX10_atom2_92 (by decide) ?_
    refine g_iload_n X 1 dX10_atom2_161 rfl rfl ?_
    obtain ⟨rfl, rfl⟩ := lf2 hf
    exact hret 162 _ dX10_atom2_162 rfl
set_option maxRecDepth 100000 in
set_option maxHeartbeats 4000000 in
theorem c_X10_atom2 {l : Launch} {G : GG} {b : Nat} {ad : Nat → Nat} {nt : Nat} {z : Nat → Nat} {m0 : Mem} {r9 : Int32} {m9 : Mem} (hf : X10_atom2 m0 = some (r9, m9)) : MtI l yX10_atom2 cX10_atom2 2 (some .int) rmX10_atom2 G b (sg ad nt z) m0 [.ref (ad 63)] (pEI r9 (sg ad nt z) m9) := by
  refine mtI_of (by decide) (Nat.le_of_ble_eq_true rfl) .int rfl (fun Γ hG X hnm hr => ?_)
  have hret : ∀ (pc : Nat) (lv : List (Nat × Value)), decode cX10_atom2 pc = .ok (.ireturn, 1) → narrow .int (.int r9) = .int r9 → Go Γ b (sg ad nt z) 0 0 pc lv [.int r9] m9 := fun pc lv d hn => hr pc lv _ _ _ d ⟨rfl, rfl, rfl⟩ hn
  show Go Γ b (sg ad nt z) 0 0 0 [(0, .ref (ad 63))] [] m0
  refine g_iconst X (v := 0) dX10_atom2_0 (by decide) ?_
  refine g_istore_n X (lv' := [(1, .int (0 : Int32)), (0, .ref (ad 63))]) dX10_atom2_1 rfl (by decide) rfl ?_
  refine g_aload_n X 1 dX10_atom2_2 rfl rfl ?_
  refine g_bipush X (v := 45) dX10_atom2_3 (by decide) ?_
  obtain ⟨r5, m5, h5, hf⟩ := bi_i hf
  refine g_eVI X 63 9 [.int (45 : Int32)] kV_X10_221 (c_X10_isSign h5) dX10_atom2_5 rfl rfl (sgN (by decide)) rfl (by decide) rfl rfl ⟨(Nat.le_of_ble_eq_true rfl), (Nat.le_of_ble_eq_true rfl)⟩ ⟨rfl, rfl⟩ ⟨(Nat.zero_le _), (Nat.zero_le _)⟩ (Nat.le_of_ble_eq_true rfl) ?_
  refine g_if_eq X (tgt := 37) dX10_atom2_8 (by decide) (fun c8 => ?_) (fun c8 => ?_)
  · have hf := it c8 hf
    refine g_aload_n X 1 dX10_atom2_37 rfl rfl ?_
    refine g_bipush X (v := 40) dX10_atom2_38 (by decide) ?_
    obtain ⟨r40, m40, h40, hf⟩ := bi_i hf
    refine g_eVI X 63 9 [.int (40 : Int32)] kV_X10_221 (c_X10_isSign h40) dX10_atom2_40 rfl rfl (sgN (by decide)) rfl (by decide) rfl rfl ⟨(Nat.le_of_ble_eq_true rfl), (Nat.le_of_ble_eq_true rfl)⟩ ⟨rfl, rfl⟩ ⟨(Nat.zero_le _), (Nat.zero_le _)⟩ (Nat.le_of_ble_eq_true rfl) ?_
    refine g_if_eq X (tgt := 95) dX10_atom2_43 (by decide) (fun c43 => ?_) (fun c43 => ?_)
    · have hf := it c43 hf
      refine g_aload_n X 1 dX10_atom2_95 rfl rfl ?_
      refine g_getI X 63 9 26 dX10_atom2_96 (sgN (by decide)) rfl (by decide) rfl iw_X10 (by decide) rfl q_fl_X10_180 ?_
      refine g_if_ne X (tgt := 123) dX10_atom2_99 (by decide) (fun c99 => ?_) (fun c99 => ?_)
      · have hf := ie c99 hf
        refine g_pick [1, 0] (lv' := [(0, .ref (ad 63)), (1, .int (0 : Int32))]) rfl ?_
        exact w_X10_atom2_123 X hret (0 : Int32) m40 hf
      · have hf := it c99 hf
        refine g_aload_n X 1 dX10_atom2_102 rfl rfl ?_
        refine g_getI X 63 9 22 dX10_atom2_103 (sgN (by decide)) rfl (by decide) rfl iw_X10 (by decide) rfl q_fl_X10_165 ?_
        refine g_iconst X (v := 2) dX10_atom2_106 (by decide) ?_
        refine g_icmp_ne X (tgt := 123) dX10_atom2_107 (by decide) (fun c107 => ?_) (fun c107 => ?_)
        · have hf := ie c107 hf
          refine g_pick [1, 0] (lv' := [(0, .ref (ad 63)), (1, .int (0 : Int32))]) rfl ?_
          exact w_X10_atom2_123 X hret (0 : Int32) m40 hf
        · have hf := it c107 hf
          refine g_aload_n X 1 dX10_atom2_110 rfl rfl ?_
          refine g_getJ X 63 9 24 dX10_atom2_111 (sgN (by decide)) rfl (by decide) rfl iw_X10 (by decide) rfl q_fl_X10_176 ?_
          refine g_l2i X dX10_atom2_114 ?_
          refine g_istore_n X (lv' := [(1, .int ((m40.2 63 24).toInt32)), (0, .ref (ad 63))]) dX10_atom2_115 rfl (by decide) rfl ?_
          refine g_aload_n X 1 dX10_atom2_116 rfl rfl ?_
          obtain ⟨m117, h117, hf⟩ := bv_i hf
          refine g_eVV X 63 9 [] kV_X10_196 (c_X10_next h117) dX10_atom2_117 rfl rfl (sgN (by decide)) rfl (by decide) rfl rfl ⟨(Nat.le_of_ble_eq_true rfl), (Nat.le_of_ble_eq_true rfl)⟩ ⟨rfl, rfl⟩ ⟨(Nat.zero_le _), (Nat.zero_le _)⟩ (Nat.le_of_ble_eq_true rfl) ?_
          refine g_goto X (tgt := 161) dX10_atom2_120 (by decide) ?_
          refine g_iload_n X 0 dX10_atom2_161 rfl rfl ?_
          obtain ⟨rfl, rfl⟩ := lf2 hf
          exact hret 162 _ dX10_atom2_162 rfl
    · have hf := ie c43 hf
      refine g_aload_n X 1 dX10_atom2_46 rfl rfl ?_
      obtain ⟨r47, m47, h47, hf⟩ := bi_i hf
      refine g_eVI X 63 9 [] kV_X10_224 (c_X10_opens h47) dX10_atom2_47 rfl rfl (sgN (by decide)) rfl (by decide) rfl rfl ⟨(Nat.le_of_ble_eq_true rfl), (Nat.le_of_ble_eq_true rfl)⟩ ⟨rfl, rfl⟩ ⟨(Nat.zero_le _), (Nat.zero_le _)⟩ (Nat.le_of_ble_eq_true rfl) ?_
      refine g_if_eq X (tgt := 161) dX10_atom2_50 (by decide) (fun c50 => ?_) (fun c50 => ?_)
      · have hf := it c50 hf
        refine g_iload_n X 0 dX10_atom2_161 rfl rfl ?_
        obtain ⟨rfl, rfl⟩ := lf2 hf
        exact hret 162 _ dX10_atom2_162 rfl
      · have hf := ie c50 hf
        refine g_aload_n X 1 dX10_atom2_53 rfl rfl ?_
        obtain ⟨r54, m54, h54, hf⟩ := bi_i hf
        refine g_eVI X 63 9 [] kV_X10_287 (c_X10_either3 h54) dX10_atom2_54 rfl rfl (sgN (by decide)) rfl (by decide) rfl rfl ⟨(Nat.le_of_ble_eq_true rfl), (Nat.le_of_ble_eq_true rfl)⟩ ⟨rfl, rfl⟩ ⟨(Nat.zero_le _), (Nat.zero_le _)⟩ (Nat.le_of_ble_eq_true rfl) ?_
        refine g_istore_n X (lv' := [(1, .int r54), (0, .ref (ad 63))]) dX10_atom2_57 rfl (by decide) rfl ?_
        refine g_aload_n X 1 dX10_atom2_58 rfl rfl ?_
        refine g_bipush X (v := 41) dX10_atom2_59 (by decide) ?_
        obtain ⟨r61, m61, h61, hf⟩ := bi_i hf
        refine g_eVI X 63 9 [.int (41 : Int32)] kV_X10_221 (c_X10_isSign h61) dX10_atom2_61 rfl rfl (sgN (by decide)) rfl (by decide) rfl rfl ⟨(Nat.le_of_ble_eq_true rfl), (Nat.le_of_ble_eq_true rfl)⟩ ⟨rfl, rfl⟩ ⟨(Nat.zero_le _), (Nat.zero_le _)⟩ (Nat.le_of_ble_eq_true rfl) ?_
        refine g_if_ne X (tgt := 71) dX10_atom2_64 (by decide) (fun c64 => ?_) (fun c64 => ?_)
        · have hf := ie c64 hf
          refine g_pick [1, 0] (lv' := [(0, .ref (ad 63)), (1, .int r54)]) rfl ?_
          exact w_X10_atom2_71 X hret r54 m61 hf
        · have hf := it c64 hf
          refine g_aload_n X 1 dX10_atom2_67 rfl rfl ?_
          obtain ⟨m68, h68, hf⟩ := bv_i hf
          refine g_eVV X 63 9 [] kV_X10_193 (c_X10_fail h68) dX10_atom2_68 rfl rfl (sgN (by decide)) rfl (by decide) rfl rfl ⟨(Nat.le_of_ble_eq_true rfl), (Nat.le_of_ble_eq_true rfl)⟩ ⟨rfl, rfl⟩ ⟨(Nat.zero_le _), (Nat.zero_le _)⟩ (Nat.le_of_ble_eq_true rfl) ?_
          refine g_pick [1, 0] (lv' := [(0, .ref (ad 63)), (1, .int r54)]) rfl ?_
          exact w_X10_atom2_71 X hret r54 m68 hf
  · have hf := ie c8 hf
    refine g_aload_n X 1 dX10_atom2_11 rfl rfl ?_
    obtain ⟨r12, m12, h12, hf⟩ := bi_i hf
    refine g_eVI X 63 9 [] kV_X10_224 (c_X10_opens h12) dX10_atom2_12 rfl rfl (sgN (by decide)) rfl (by decide) rfl rfl ⟨(Nat.le_of_ble_eq_true rfl), (Nat.le_of_ble_eq_true rfl)⟩ ⟨rfl, rfl⟩ ⟨(Nat.zero_le _), (Nat.zero_le _)⟩ (Nat.le_of_ble_eq_true rfl) ?_
    refine g_if_eq X (tgt := 161) dX10_atom2_15 (by decide) (fun c15 => ?_) (fun c15 => ?_)
    · have hf := it c15 hf
      refine g_iload_n X 0 dX10_atom2_161 rfl rfl ?_
      obtain ⟨rfl, rfl⟩ := lf2 hf
      exact hret 162 _ dX10_atom2_162 rfl
    · have hf := ie c15 hf
      refine g_aload_n X 1 dX10_atom2_18 rfl rfl ?_
      obtain ⟨r19, m19, h19, hf⟩ := bi_i hf
      refine g_eVI X 63 9 [] kV_X10_272 (c_X10_atom3 h19) dX10_atom2_19 rfl rfl (sgN (by decide)) rfl (by decide) rfl rfl ⟨(Nat.le_of_ble_eq_true rfl), (Nat.le_of_ble_eq_true rfl)⟩ ⟨rfl, rfl⟩ ⟨(Nat.zero_le _), (Nat.zero_le _)⟩ (Nat.le_of_ble_eq_true rfl) ?_
      refine g_ineg X dX10_atom2_22 ?_
      refine g_istore_n X (lv' := [(1, .int (-r19)), (0, .ref (ad 63))]) dX10_atom2_23 rfl (by decide) rfl ?_
      refine g_aload_n X 1 dX10_atom2_24 rfl rfl ?_
      refine g_dup X dX10_atom2_25 rfl ?_
      refine g_getI X 63 9 25 dX10_atom2_26 (sgN (by decide)) rfl (by decide) rfl iw_X10 (by decide) rfl q_fl_X10_190 ?_
      refine g_iconst X (v := 1) dX10_atom2_29 (by decide) ?_
      refine g_isub X dX10_atom2_30 ?_
      refine g_putI X (tyf := tyX10) 63 9 25 dX10_atom2_31 (sgN (by decide)) rfl (by decide) rfl iw_X10 (by decide) rfl q_fl_X10_190 tyX10_ok nmX10 rfl rfl rfl ?_
      refine g_goto X (tgt := 161) dX10_atom2_34 (by decide) ?_
      refine g_iload_n X 0 dX10_atom2_161 rfl rfl ?_
      obtain ⟨rfl, rfl⟩ := lf2 hf
      exact hret 162 _ dX10_atom2_162 rfl

theorem kV_X10_290 : wcV RX10 290 RX10 yX10_atom2 cX10_atom2 2 (some .int) 0 := ⟨q_ml_X10_290, q_im_yX10_atom2, q_se_yX10_atom2, q_in_X10, q_co_yX10_atom2, by decide +kernel⟩

def X10_term2_5 : Nat → Int32 → Mem → Option (Int32 × Mem)
  | 0, _, _ => none
  | n + 1, v1, m0 =>
    bi (X10_isSign (42 : Int32) m0) fun r8 m8 =>
    if r8 = 0 then
      some (v1, m8)
    else
      bv (X10_next m8) fun m15 =>
      bi (X10_atom2 m15) fun r20 m20 =>
      X10_term2_5 n (v1 * r20) m20
def X10_term2 (m0 : Mem) : Option (Int32 × Mem) :=
  bi (X10_atom2 m0) fun r1 m1 =>
  X10_term2_5 10000 r1 m1
abbrev rmX10_term2 : Room := { frames := 23, cells := 0, slots := 0, locals := 508 }
set_option maxRecDepth 100000 in
set_option maxHeartbeats 4000000 in
theorem w_X10_term2_5 {Γ : Ga} {b : Nat} {ad : Nat → Nat} {nt : Nat} {z : Nat → Nat} {r9 : Int32} {m9 : Mem} (X : Cx Γ b cX10_term2 2 RX10 (some .int) rmX10_term2) (hret : ∀ (pc : Nat) (lv : List (Nat × Value)), decode cX10_term2 pc = .ok (.ireturn, 1) → narrow .int (.int r9) = .int r9 → Go Γ b (sg ad nt z) 0 0 pc lv [.int r9] m9) : ∀ (n : Nat) (v1 : Int32) (m0 : Mem), X10_term2_5 n v1 m0 = some (r9, m9) → Go Γ b (sg ad nt z) 0 0 5 [(0, .ref (ad 63)), (1, .int v1)] [] m0 := by
  intro n
  induction n with
  | zero =>
    intro v1 m0 hf
    cases hf
  | succ n ih =>
    intro v1 m0 hf
    refine g_aload_n X 0 dX10_term2_5 rfl rfl ?_
    refine g_bipush X (v := 42) dX10_term2_6 (by decide) ?_
    obtain ⟨r8, m8, h8, hf⟩ := bi_i hf
    refine g_eVI X 63 9 [.int (42 : Int32)] kV_X10_221 (c_X10_isSign h8) dX10_term2_8 rfl rfl (sgN (by decide)) rfl (by decide) rfl rfl ⟨(Nat.le_of_ble_eq_true rfl), (Nat.le_of_ble_eq_true rfl)⟩ ⟨rfl, rfl⟩ ⟨(Nat.zero_le _), (Nat.zero_le _)⟩ (Nat.le_of_ble_eq_true rfl) ?_
    refine g_if_eq X (tgt := 28) dX10_term2_11 (by decide) (fun c11 => ?_) (fun c11 => ?_)
    · have hf := it c11 hf
      refine g_iload_n X 1 dX10_term2_28 rfl rfl ?_
      obtain ⟨rfl, rfl⟩ := lf2 hf
      exact hret 29 _ dX10_term2_29 rfl
    · have hf := ie c11 hf
      refine g_aload_n X 0 dX10_term2_14 rfl rfl ?_
      obtain ⟨m15, h15, hf⟩ := bv_i hf
      refine g_eVV X 63 9 [] kV_X10_196 (c_X10_next h15) dX10_term2_15 rfl rfl (sgN (by decide)) rfl (by decide) rfl rfl ⟨(Nat.le_of_ble_eq_true rfl), (Nat.le_of_ble_eq_true rfl)⟩ ⟨rfl, rfl⟩ ⟨(Nat.zero_le _), (Nat.zero_le _)⟩ (Nat.le_of_ble_eq_true rfl) ?_
      refine g_iload_n X 1 dX10_term2_18 rfl rfl ?_
      refine g_aload_n X 0 dX10_term2_19 rfl rfl ?_
      obtain ⟨r20, m20, h20, hf⟩ := bi_i hf
      refine g_eVI X 63 9 [] kV_X10_290 (c_X10_atom2 h20) dX10_term2_20 rfl rfl (sgN (by decide)) rfl (by decide) rfl rfl ⟨(Nat.le_of_ble_eq_true rfl), (Nat.le_of_ble_eq_true rfl)⟩ ⟨rfl, rfl⟩ ⟨(Nat.zero_le _), (Nat.zero_le _)⟩ (Nat.le_of_ble_eq_true rfl) ?_
      refine g_imul X dX10_term2_23 ?_
      refine g_istore_n X (lv' := [(1, .int (v1 * r20)), (0, .ref (ad 63))]) dX10_term2_24 rfl (by decide) rfl ?_
      refine g_goto X (tgt := 5) dX10_term2_25 (by decide) ?_
      refine g_pick [1, 0] (lv' := [(0, .ref (ad 63)), (1, .int (v1 * r20))]) rfl ?_
      exact ih (v1 * r20) m20 hf
set_option maxRecDepth 100000 in
set_option maxHeartbeats 4000000 in
theorem c_X10_term2 {l : Launch} {G : GG} {b : Nat} {ad : Nat → Nat} {nt : Nat} {z : Nat → Nat} {m0 : Mem} {r9 : Int32} {m9 : Mem} (hf : X10_term2 m0 = some (r9, m9)) : MtI l yX10_term2 cX10_term2 2 (some .int) rmX10_term2 G b (sg ad nt z) m0 [.ref (ad 63)] (pEI r9 (sg ad nt z) m9) := by
  refine mtI_of (by decide) (Nat.le_of_ble_eq_true rfl) .int rfl (fun Γ hG X hnm hr => ?_)
  have hret : ∀ (pc : Nat) (lv : List (Nat × Value)), decode cX10_term2 pc = .ok (.ireturn, 1) → narrow .int (.int r9) = .int r9 → Go Γ b (sg ad nt z) 0 0 pc lv [.int r9] m9 := fun pc lv d hn => hr pc lv _ _ _ d ⟨rfl, rfl, rfl⟩ hn
  show Go Γ b (sg ad nt z) 0 0 0 [(0, .ref (ad 63))] [] m0
  refine g_aload_n X 0 dX10_term2_0 rfl rfl ?_
  obtain ⟨r1, m1, h1, hf⟩ := bi_i hf
  refine g_eVI X 63 9 [] kV_X10_290 (c_X10_atom2 h1) dX10_term2_1 rfl rfl (sgN (by decide)) rfl (by decide) rfl rfl ⟨(Nat.le_of_ble_eq_true rfl), (Nat.le_of_ble_eq_true rfl)⟩ ⟨rfl, rfl⟩ ⟨(Nat.zero_le _), (Nat.zero_le _)⟩ (Nat.le_of_ble_eq_true rfl) ?_
  refine g_istore_n X (lv' := [(1, .int r1), (0, .ref (ad 63))]) dX10_term2_4 rfl (by decide) rfl ?_
  refine g_pick [1, 0] (lv' := [(0, .ref (ad 63)), (1, .int r1)]) rfl ?_
  exact w_X10_term2_5 X hret 10000 r1 m1 hf

theorem kV_X10_293 : wcV RX10 293 RX10 yX10_term2 cX10_term2 2 (some .int) 0 := ⟨q_ml_X10_293, q_im_yX10_term2, q_se_yX10_term2, q_in_X10, q_co_yX10_term2, by decide +kernel⟩

def X10_added2_62 (k5 : Int32 → Mem → Option (Int32 × Mem)) (s0 : Int32) (m0 : Mem) : Option (Int32 × Mem) :=
  k5 s0 m0
def X10_added2_39 (k5 : Int32 → Mem → Option (Int32 × Mem)) (v1 : Int32) (s0 : Int32) (m0 : Mem) : Option (Int32 × Mem) :=
  bv (X10_next m0) fun m41 =>
  bi (X10_term2 m41) fun r45 m45 =>
  if s0 = 0 then
    X10_added2_62 k5 (v1 - r45) m45
  else
    X10_added2_62 k5 (v1 + r45) m45
def X10_added2_23 (k5 : Int32 → Mem → Option (Int32 × Mem)) (v1 : Int32) (m0 : Mem) : Option (Int32 × Mem) :=
  if (lg_cmp (m0.2 63 24) (43 : Int64)) = 0 then
    X10_added2_39 k5 v1 (1 : Int32) m0
  else
    X10_added2_39 k5 v1 (0 : Int32) m0
def X10_added2_5 : Nat → Int32 → Mem → Option (Int32 × Mem)
  | 0, _, _ => none
  | n + 1, v1, m0 =>
    bi (X10_isSign (43 : Int32) m0) fun r8 m8 =>
    if r8 = 0 then
      bi (X10_isSign (45 : Int32) m8) fun r17 m17 =>
      if r17 = 0 then
        some (v1, m17)
      else
        X10_added2_23 (X10_added2_5 n) v1 m17
    else
      X10_added2_23 (X10_added2_5 n) v1 m8
def X10_added2 (m0 : Mem) : Option (Int32 × Mem) :=
  bi (X10_term2 m0) fun r1 m1 =>
  X10_added2_5 10000 r1 m1
abbrev rmX10_added2 : Room := { frames := 24, cells := 0, slots := 0, locals := 529 }
set_option maxRecDepth 100000 in
set_option maxHeartbeats 4000000 in
theorem w_X10_added2_62 {Γ : Ga} {b : Nat} {ad : Nat → Nat} {nt : Nat} {z : Nat → Nat} {k5 : Int32 → Mem → Option (Int32 × Mem)} {r9 : Int32} {m9 : Mem} (X : Cx Γ b cX10_added2 4 RX10 (some .int) rmX10_added2) (hret : ∀ (pc : Nat) (lv : List (Nat × Value)), decode cX10_added2 pc = .ok (.ireturn, 1) → narrow .int (.int r9) = .int r9 → Go Γ b (sg ad nt z) 0 0 pc lv [.int r9] m9) (hk5 : ∀ (v1 : Int32) (m0 : Mem), k5 v1 m0 = some (r9, m9) → Go Γ b (sg ad nt z) 0 0 5 [(0, .ref (ad 63)), (1, .int v1)] [] m0) (s0 : Int32) (m0 : Mem) (hf : X10_added2_62 k5 s0 m0 = some (r9, m9)) : Go Γ b (sg ad nt z) 0 0 62 [(0, .ref (ad 63))] [.int s0] m0 := by
  refine g_istore_n X (lv' := [(1, .int s0), (0, .ref (ad 63))]) dX10_added2_62 rfl (by decide) rfl ?_
  refine g_goto X (tgt := 5) dX10_added2_63 (by decide) ?_
  refine g_pick [1, 0] (lv' := [(0, .ref (ad 63)), (1, .int s0)]) rfl ?_
  exact hk5 s0 m0 hf
set_option maxRecDepth 100000 in
set_option maxHeartbeats 4000000 in
theorem w_X10_added2_39 {Γ : Ga} {b : Nat} {ad : Nat → Nat} {nt : Nat} {z : Nat → Nat} {k5 : Int32 → Mem → Option (Int32 × Mem)} {r9 : Int32} {m9 : Mem} (X : Cx Γ b cX10_added2 4 RX10 (some .int) rmX10_added2) (hret : ∀ (pc : Nat) (lv : List (Nat × Value)), decode cX10_added2 pc = .ok (.ireturn, 1) → narrow .int (.int r9) = .int r9 → Go Γ b (sg ad nt z) 0 0 pc lv [.int r9] m9) (hk5 : ∀ (v1 : Int32) (m0 : Mem), k5 v1 m0 = some (r9, m9) → Go Γ b (sg ad nt z) 0 0 5 [(0, .ref (ad 63)), (1, .int v1)] [] m0) (v1 : Int32) (s0 : Int32) (m0 : Mem) (hf : X10_added2_39 k5 v1 s0 m0 = some (r9, m9)) : Go Γ b (sg ad nt z) 0 0 39 [(0, .ref (ad 63)), (1, .int v1)] [.int s0] m0 := by
  refine g_istore_n X (lv' := [(2, .int s0), (0, .ref (ad 63)), (1, .int v1)]) dX10_added2_39 rfl (by decide) rfl ?_
  refine g_aload_n X 1 dX10_added2_40 rfl rfl ?_
  obtain ⟨m41, h41, hf⟩ := bv_i hf
  refine g_eVV X 63 9 [] kV_X10_196 (c_X10_next h41) dX10_added2_41 rfl rfl (sgN (by decide)) rfl (by decide) rfl rfl ⟨(Nat.le_of_ble_eq_true rfl), (Nat.le_of_ble_eq_true rfl)⟩ ⟨rfl, rfl⟩ ⟨(Nat.zero_le _), (Nat.zero_le _)⟩ (Nat.le_of_ble_eq_true rfl) ?_
  refine g_aload_n X 1 dX10_added2_44 rfl rfl ?_
  obtain ⟨r45, m45, h45, hf⟩ := bi_i hf
  refine g_eVI X 63 9 [] kV_X10_293 (c_X10_term2 h45) dX10_added2_45 rfl rfl (sgN (by decide)) rfl (by decide) rfl rfl ⟨(Nat.le_of_ble_eq_true rfl), (Nat.le_of_ble_eq_true rfl)⟩ ⟨rfl, rfl⟩ ⟨(Nat.zero_le _), (Nat.zero_le _)⟩ (Nat.le_of_ble_eq_true rfl) ?_
  refine g_istore_n X (lv' := [(3, .int r45), (2, .int s0), (0, .ref (ad 63)), (1, .int v1)]) dX10_added2_48 rfl (by decide) rfl ?_
  refine g_iload_n X 1 dX10_added2_49 rfl rfl ?_
  refine g_if_eq X (tgt := 59) dX10_added2_50 (by decide) (fun c50 => ?_) (fun c50 => ?_)
  · have hf := it c50 hf
    refine g_iload_n X 3 dX10_added2_59 rfl rfl ?_
    refine g_iload_n X 0 dX10_added2_60 rfl rfl ?_
    refine g_isub X dX10_added2_61 ?_
    refine g_pick [2] (lv' := [(0, .ref (ad 63))]) rfl ?_
    exact w_X10_added2_62 X hret hk5 (v1 - r45) m45 hf
  · have hf := ie c50 hf
    refine g_iload_n X 3 dX10_added2_53 rfl rfl ?_
    refine g_iload_n X 0 dX10_added2_54 rfl rfl ?_
    refine g_iadd X dX10_added2_55 ?_
    refine g_goto X (tgt := 62) dX10_added2_56 (by decide) ?_
    refine g_pick [2] (lv' := [(0, .ref (ad 63))]) rfl ?_
    exact w_X10_added2_62 X hret hk5 (v1 + r45) m45 hf
set_option maxRecDepth 100000 in
set_option maxHeartbeats 4000000 in
theorem w_X10_added2_23 {Γ : Ga} {b : Nat} {ad : Nat → Nat} {nt : Nat} {z : Nat → Nat} {k5 : Int32 → Mem → Option (Int32 × Mem)} {r9 : Int32} {m9 : Mem} (X : Cx Γ b cX10_added2 4 RX10 (some .int) rmX10_added2) (hret : ∀ (pc : Nat) (lv : List (Nat × Value)), decode cX10_added2 pc = .ok (.ireturn, 1) → narrow .int (.int r9) = .int r9 → Go Γ b (sg ad nt z) 0 0 pc lv [.int r9] m9) (hk5 : ∀ (v1 : Int32) (m0 : Mem), k5 v1 m0 = some (r9, m9) → Go Γ b (sg ad nt z) 0 0 5 [(0, .ref (ad 63)), (1, .int v1)] [] m0) (v1 : Int32) (m0 : Mem) (hf : X10_added2_23 k5 v1 m0 = some (r9, m9)) : Go Γ b (sg ad nt z) 0 0 23 [(0, .ref (ad 63)), (1, .int v1)] [] m0 := by
  refine g_aload_n X 0 dX10_added2_23 rfl rfl ?_
  refine g_getJ X 63 9 24 dX10_added2_24 (sgN (by decide)) rfl (by decide) rfl iw_X10 (by decide) rfl q_fl_X10_176 ?_
  refine g_ldc2 X dX10_added2_27 q_cl_X10_238 ?_
  refine g_lcmp X dX10_added2_30 ?_
  refine g_if_ne X (tgt := 38) dX10_added2_31 (by decide) (fun c31 => ?_) (fun c31 => ?_)
  · have hf := ie c31 hf
    refine g_iconst X (v := 0) dX10_added2_38 (by decide) ?_
    exact w_X10_added2_39 X hret hk5 v1 (0 : Int32) m0 hf
  · have hf := it c31 hf
    refine g_iconst X (v := 1) dX10_added2_34 (by decide) ?_
    refine g_goto X (tgt := 39) dX10_added2_35 (by decide) ?_
    exact w_X10_added2_39 X hret hk5 v1 (1 : Int32) m0 hf
set_option maxRecDepth 100000 in
set_option maxHeartbeats 4000000 in
theorem w_X10_added2_5 {Γ : Ga} {b : Nat} {ad : Nat → Nat} {nt : Nat} {z : Nat → Nat} {r9 : Int32} {m9 : Mem} (X : Cx Γ b cX10_added2 4 RX10 (some .int) rmX10_added2) (hret : ∀ (pc : Nat) (lv : List (Nat × Value)), decode cX10_added2 pc = .ok (.ireturn, 1) → narrow .int (.int r9) = .int r9 → Go Γ b (sg ad nt z) 0 0 pc lv [.int r9] m9) : ∀ (n : Nat) (v1 : Int32) (m0 : Mem), X10_added2_5 n v1 m0 = some (r9, m9) → Go Γ b (sg ad nt z) 0 0 5 [(0, .ref (ad 63)), (1, .int v1)] [] m0 := by
  intro n
  induction n with
  | zero =>
    intro v1 m0 hf
    cases hf
  | succ n ih =>
    intro v1 m0 hf
    refine g_aload_n X 0 dX10_added2_5 rfl rfl ?_
    refine g_bipush X (v := 43) dX10_added2_6 (by decide) ?_
    obtain ⟨r8, m8, h8, hf⟩ := bi_i hf
    refine g_eVI X 63 9 [.int (43 : Int32)] kV_X10_221 (c_X10_isSign h8) dX10_added2_8 rfl rfl (sgN (by decide)) rfl (by decide) rfl rfl ⟨(Nat.le_of_ble_eq_true rfl), (Nat.le_of_ble_eq_true rfl)⟩ ⟨rfl, rfl⟩ ⟨(Nat.zero_le _), (Nat.zero_le _)⟩ (Nat.le_of_ble_eq_true rfl) ?_
    refine g_if_ne X (tgt := 23) dX10_added2_11 (by decide) (fun c11 => ?_) (fun c11 => ?_)
    · have hf := ie c11 hf
      exact w_X10_added2_23 X hret ih v1 m8 hf
    · have hf := it c11 hf
      refine g_aload_n X 0 dX10_added2_14 rfl rfl ?_
      refine g_bipush X (v := 45) dX10_added2_15 (by decide) ?_
      obtain ⟨r17, m17, h17, hf⟩ := bi_i hf
      refine g_eVI X 63 9 [.int (45 : Int32)] kV_X10_221 (c_X10_isSign h17) dX10_added2_17 rfl rfl (sgN (by decide)) rfl (by decide) rfl rfl ⟨(Nat.le_of_ble_eq_true rfl), (Nat.le_of_ble_eq_true rfl)⟩ ⟨rfl, rfl⟩ ⟨(Nat.zero_le _), (Nat.zero_le _)⟩ (Nat.le_of_ble_eq_true rfl) ?_
      refine g_if_eq X (tgt := 66) dX10_added2_20 (by decide) (fun c20 => ?_) (fun c20 => ?_)
      · have hf := it c20 hf
        refine g_iload_n X 1 dX10_added2_66 rfl rfl ?_
        obtain ⟨rfl, rfl⟩ := lf2 hf
        exact hret 67 _ dX10_added2_67 rfl
      · have hf := ie c20 hf
        exact w_X10_added2_23 X hret ih v1 m17 hf
set_option maxRecDepth 100000 in
set_option maxHeartbeats 4000000 in
theorem c_X10_added2 {l : Launch} {G : GG} {b : Nat} {ad : Nat → Nat} {nt : Nat} {z : Nat → Nat} {m0 : Mem} {r9 : Int32} {m9 : Mem} (hf : X10_added2 m0 = some (r9, m9)) : MtI l yX10_added2 cX10_added2 4 (some .int) rmX10_added2 G b (sg ad nt z) m0 [.ref (ad 63)] (pEI r9 (sg ad nt z) m9) := by
  refine mtI_of (by decide) (Nat.le_of_ble_eq_true rfl) .int rfl (fun Γ hG X hnm hr => ?_)
  have hret : ∀ (pc : Nat) (lv : List (Nat × Value)), decode cX10_added2 pc = .ok (.ireturn, 1) → narrow .int (.int r9) = .int r9 → Go Γ b (sg ad nt z) 0 0 pc lv [.int r9] m9 := fun pc lv d hn => hr pc lv _ _ _ d ⟨rfl, rfl, rfl⟩ hn
  show Go Γ b (sg ad nt z) 0 0 0 [(0, .ref (ad 63))] [] m0
  refine g_aload_n X 0 dX10_added2_0 rfl rfl ?_
  obtain ⟨r1, m1, h1, hf⟩ := bi_i hf
  refine g_eVI X 63 9 [] kV_X10_293 (c_X10_term2 h1) dX10_added2_1 rfl rfl (sgN (by decide)) rfl (by decide) rfl rfl ⟨(Nat.le_of_ble_eq_true rfl), (Nat.le_of_ble_eq_true rfl)⟩ ⟨rfl, rfl⟩ ⟨(Nat.zero_le _), (Nat.zero_le _)⟩ (Nat.le_of_ble_eq_true rfl) ?_
  refine g_istore_n X (lv' := [(1, .int r1), (0, .ref (ad 63))]) dX10_added2_4 rfl (by decide) rfl ?_
  refine g_pick [1, 0] (lv' := [(0, .ref (ad 63)), (1, .int r1)]) rfl ?_
  exact w_X10_added2_5 X hret 10000 r1 m1 hf

theorem kV_X10_296 : wcV RX10 296 RX10 yX10_added2 cX10_added2 4 (some .int) 0 := ⟨q_ml_X10_296, q_im_yX10_added2, q_se_yX10_added2, q_in_X10, q_co_yX10_added2, by decide +kernel⟩

def X10_not2_93 (v1 : Int32) (s0 : Int32) (m0 : Mem) : Option (Int32 × Mem) :=
  bv (X10_next m0) fun m95 =>
  bi (X10_added2 m95) fun r99 m99 =>
  if s0 = 0 then
    if v1 = r99 then
      some ((1 : Int32), m99)
    else
      some ((0 : Int32), m99)
  else
    if r99 ≤ v1 then
      some ((0 : Int32), m99)
    else
      some ((1 : Int32), m99)
def X10_not2_77 (v1 : Int32) (m0 : Mem) : Option (Int32 × Mem) :=
  if (lg_cmp (m0.2 63 24) (60 : Int64)) = 0 then
    X10_not2_93 v1 (1 : Int32) m0
  else
    X10_not2_93 v1 (0 : Int32) m0
def X10_not2 (m0 : Mem) : Option (Int32 × Mem) :=
  bi (X10_isWord (110 : Int32) (111 : Int32) (116 : Int32) (0 : Int32) (0 : Int32) (0 : Int32) (0 : Int32) (0 : Int32) m0) fun r12 m12 =>
  if r12 = 0 then
    bi (X10_added2 m12) fun r53 m53 =>
    bi (X10_isSign (60 : Int32) m53) fun r60 m60 =>
    if r60 = 0 then
      bi (X10_isSign (61 : Int32) m60) fun r69 m69 =>
      if r69 = 0 then
        some (r53, m69)
      else
        X10_not2_77 r53 m69
    else
      X10_not2_77 r53 m60
  else
    bi (X10_opens m12) fun r19 m19 =>
    if r19 = 0 then
      some ((0 : Int32), m19)
    else
      bi (X10_not3 m19) fun r28 m28 =>
      if r28 = 0 then
        some ((1 : Int32), pI m28 63 25 ((m28.1 63 25) - (1 : Int32)))
      else
        some ((0 : Int32), pI m28 63 25 ((m28.1 63 25) - (1 : Int32)))
abbrev rmX10_not2 : Room := { frames := 25, cells := 0, slots := 0, locals := 552 }
set_option maxRecDepth 100000 in
set_option maxHeartbeats 4000000 in
theorem w_X10_not2_93 {Γ : Ga} {b : Nat} {ad : Nat → Nat} {nt : Nat} {z : Nat → Nat} {r9 : Int32} {m9 : Mem} (X : Cx Γ b cX10_not2 4 RX10 (some .int) rmX10_not2) (hret : ∀ (pc : Nat) (lv : List (Nat × Value)), decode cX10_not2 pc = .ok (.ireturn, 1) → narrow .int (.int r9) = .int r9 → Go Γ b (sg ad nt z) 0 0 pc lv [.int r9] m9) (v1 : Int32) (s0 : Int32) (m0 : Mem) (hf : X10_not2_93 v1 s0 m0 = some (r9, m9)) : Go Γ b (sg ad nt z) 0 0 93 [(0, .ref (ad 63)), (1, .int v1)] [.int s0] m0 := by
  refine g_istore_n X (lv' := [(2, .int s0), (0, .ref (ad 63)), (1, .int v1)]) dX10_not2_93 rfl (by decide) rfl ?_
  refine g_aload_n X 1 dX10_not2_94 rfl rfl ?_
  obtain ⟨m95, h95, hf⟩ := bv_i hf
  refine g_eVV X 63 9 [] kV_X10_196 (c_X10_next h95) dX10_not2_95 rfl rfl (sgN (by decide)) rfl (by decide) rfl rfl ⟨(Nat.le_of_ble_eq_true rfl), (Nat.le_of_ble_eq_true rfl)⟩ ⟨rfl, rfl⟩ ⟨(Nat.zero_le _), (Nat.zero_le _)⟩ (Nat.le_of_ble_eq_true rfl) ?_
  refine g_aload_n X 1 dX10_not2_98 rfl rfl ?_
  obtain ⟨r99, m99, h99, hf⟩ := bi_i hf
  refine g_eVI X 63 9 [] kV_X10_296 (c_X10_added2 h99) dX10_not2_99 rfl rfl (sgN (by decide)) rfl (by decide) rfl rfl ⟨(Nat.le_of_ble_eq_true rfl), (Nat.le_of_ble_eq_true rfl)⟩ ⟨rfl, rfl⟩ ⟨(Nat.zero_le _), (Nat.zero_le _)⟩ (Nat.le_of_ble_eq_true rfl) ?_
  refine g_istore_n X (lv' := [(3, .int r99), (2, .int s0), (0, .ref (ad 63)), (1, .int v1)]) dX10_not2_102 rfl (by decide) rfl ?_
  refine g_iload_n X 1 dX10_not2_103 rfl rfl ?_
  refine g_if_eq X (tgt := 115) dX10_not2_104 (by decide) (fun c104 => ?_) (fun c104 => ?_)
  · have hf := it c104 hf
    refine g_iload_n X 3 dX10_not2_115 rfl rfl ?_
    refine g_iload_n X 0 dX10_not2_116 rfl rfl ?_
    refine g_icmp_ne X (tgt := 124) dX10_not2_117 (by decide) (fun c117 => ?_) (fun c117 => ?_)
    · have hf := ie c117 hf
      refine g_iconst X (v := 0) dX10_not2_124 (by decide) ?_
      obtain ⟨rfl, rfl⟩ := lf2 hf
      exact hret 125 _ dX10_not2_125 rfl
    · have hf := it c117 hf
      refine g_iconst X (v := 1) dX10_not2_120 (by decide) ?_
      refine g_goto X (tgt := 125) dX10_not2_121 (by decide) ?_
      obtain ⟨rfl, rfl⟩ := lf2 hf
      exact hret 125 _ dX10_not2_125 rfl
  · have hf := ie c104 hf
    refine g_iload_n X 3 dX10_not2_107 rfl rfl ?_
    refine g_iload_n X 0 dX10_not2_108 rfl rfl ?_
    refine g_icmp_ge X (tgt := 124) dX10_not2_109 (by decide) (fun c109 => ?_) (fun c109 => ?_)
    · have hf := it c109 hf
      refine g_iconst X (v := 0) dX10_not2_124 (by decide) ?_
      obtain ⟨rfl, rfl⟩ := lf2 hf
      exact hret 125 _ dX10_not2_125 rfl
    · have hf := ie c109 hf
      refine g_goto X (tgt := 120) dX10_not2_112 (by decide) ?_
      refine g_iconst X (v := 1) dX10_not2_120 (by decide) ?_
      refine g_goto X (tgt := 125) dX10_not2_121 (by decide) ?_
      obtain ⟨rfl, rfl⟩ := lf2 hf
      exact hret 125 _ dX10_not2_125 rfl
set_option maxRecDepth 100000 in
set_option maxHeartbeats 4000000 in
theorem w_X10_not2_77 {Γ : Ga} {b : Nat} {ad : Nat → Nat} {nt : Nat} {z : Nat → Nat} {r9 : Int32} {m9 : Mem} (X : Cx Γ b cX10_not2 4 RX10 (some .int) rmX10_not2) (hret : ∀ (pc : Nat) (lv : List (Nat × Value)), decode cX10_not2 pc = .ok (.ireturn, 1) → narrow .int (.int r9) = .int r9 → Go Γ b (sg ad nt z) 0 0 pc lv [.int r9] m9) (v1 : Int32) (m0 : Mem) (hf : X10_not2_77 v1 m0 = some (r9, m9)) : Go Γ b (sg ad nt z) 0 0 77 [(0, .ref (ad 63)), (1, .int v1)] [] m0 := by
  refine g_aload_n X 0 dX10_not2_77 rfl rfl ?_
  refine g_getJ X 63 9 24 dX10_not2_78 (sgN (by decide)) rfl (by decide) rfl iw_X10 (by decide) rfl q_fl_X10_176 ?_
  refine g_ldc2 X dX10_not2_81 q_cl_X10_243 ?_
  refine g_lcmp X dX10_not2_84 ?_
  refine g_if_ne X (tgt := 92) dX10_not2_85 (by decide) (fun c85 => ?_) (fun c85 => ?_)
  · have hf := ie c85 hf
    refine g_iconst X (v := 0) dX10_not2_92 (by decide) ?_
    exact w_X10_not2_93 X hret v1 (0 : Int32) m0 hf
  · have hf := it c85 hf
    refine g_iconst X (v := 1) dX10_not2_88 (by decide) ?_
    refine g_goto X (tgt := 93) dX10_not2_89 (by decide) ?_
    exact w_X10_not2_93 X hret v1 (1 : Int32) m0 hf
set_option maxRecDepth 100000 in
set_option maxHeartbeats 4000000 in
theorem c_X10_not2 {l : Launch} {G : GG} {b : Nat} {ad : Nat → Nat} {nt : Nat} {z : Nat → Nat} {m0 : Mem} {r9 : Int32} {m9 : Mem} (hf : X10_not2 m0 = some (r9, m9)) : MtI l yX10_not2 cX10_not2 4 (some .int) rmX10_not2 G b (sg ad nt z) m0 [.ref (ad 63)] (pEI r9 (sg ad nt z) m9) := by
  refine mtI_of (by decide) (Nat.le_of_ble_eq_true rfl) .int rfl (fun Γ hG X hnm hr => ?_)
  have hret : ∀ (pc : Nat) (lv : List (Nat × Value)), decode cX10_not2 pc = .ok (.ireturn, 1) → narrow .int (.int r9) = .int r9 → Go Γ b (sg ad nt z) 0 0 pc lv [.int r9] m9 := fun pc lv d hn => hr pc lv _ _ _ d ⟨rfl, rfl, rfl⟩ hn
  show Go Γ b (sg ad nt z) 0 0 0 [(0, .ref (ad 63))] [] m0
  refine g_aload_n X 0 dX10_not2_0 rfl rfl ?_
  refine g_bipush X (v := 110) dX10_not2_1 (by decide) ?_
  refine g_bipush X (v := 111) dX10_not2_3 (by decide) ?_
  refine g_bipush X (v := 116) dX10_not2_5 (by decide) ?_
  refine g_iconst X (v := 0) dX10_not2_7 (by decide) ?_
  refine g_iconst X (v := 0) dX10_not2_8 (by decide) ?_
  refine g_iconst X (v := 0) dX10_not2_9 (by decide) ?_
  refine g_iconst X (v := 0) dX10_not2_10 (by decide) ?_
  refine g_iconst X (v := 0) dX10_not2_11 (by decide) ?_
  obtain ⟨r12, m12, h12, hf⟩ := bi_i hf
  refine g_eVI X 63 9 [.int (110 : Int32), .int (111 : Int32), .int (116 : Int32), .int (0 : Int32), .int (0 : Int32), .int (0 : Int32), .int (0 : Int32), .int (0 : Int32)] kV_X10_199 (c_X10_isWord h12) dX10_not2_12 rfl rfl (sgN (by decide)) rfl (by decide) rfl rfl ⟨(Nat.le_of_ble_eq_true rfl), (Nat.le_of_ble_eq_true rfl)⟩ ⟨rfl, rfl⟩ ⟨(Nat.zero_le _), (Nat.zero_le _)⟩ (Nat.le_of_ble_eq_true rfl) ?_
  refine g_if_eq X (tgt := 52) dX10_not2_15 (by decide) (fun c15 => ?_) (fun c15 => ?_)
  · have hf := it c15 hf
    refine g_aload_n X 0 dX10_not2_52 rfl rfl ?_
    obtain ⟨r53, m53, h53, hf⟩ := bi_i hf
    refine g_eVI X 63 9 [] kV_X10_296 (c_X10_added2 h53) dX10_not2_53 rfl rfl (sgN (by decide)) rfl (by decide) rfl rfl ⟨(Nat.le_of_ble_eq_true rfl), (Nat.le_of_ble_eq_true rfl)⟩ ⟨rfl, rfl⟩ ⟨(Nat.zero_le _), (Nat.zero_le _)⟩ (Nat.le_of_ble_eq_true rfl) ?_
    refine g_istore_n X (lv' := [(1, .int r53), (0, .ref (ad 63))]) dX10_not2_56 rfl (by decide) rfl ?_
    refine g_aload_n X 1 dX10_not2_57 rfl rfl ?_
    refine g_bipush X (v := 60) dX10_not2_58 (by decide) ?_
    obtain ⟨r60, m60, h60, hf⟩ := bi_i hf
    refine g_eVI X 63 9 [.int (60 : Int32)] kV_X10_221 (c_X10_isSign h60) dX10_not2_60 rfl rfl (sgN (by decide)) rfl (by decide) rfl rfl ⟨(Nat.le_of_ble_eq_true rfl), (Nat.le_of_ble_eq_true rfl)⟩ ⟨rfl, rfl⟩ ⟨(Nat.zero_le _), (Nat.zero_le _)⟩ (Nat.le_of_ble_eq_true rfl) ?_
    refine g_if_ne X (tgt := 77) dX10_not2_63 (by decide) (fun c63 => ?_) (fun c63 => ?_)
    · have hf := ie c63 hf
      refine g_pick [1, 0] (lv' := [(0, .ref (ad 63)), (1, .int r53)]) rfl ?_
      exact w_X10_not2_77 X hret r53 m60 hf
    · have hf := it c63 hf
      refine g_aload_n X 1 dX10_not2_66 rfl rfl ?_
      refine g_bipush X (v := 61) dX10_not2_67 (by decide) ?_
      obtain ⟨r69, m69, h69, hf⟩ := bi_i hf
      refine g_eVI X 63 9 [.int (61 : Int32)] kV_X10_221 (c_X10_isSign h69) dX10_not2_69 rfl rfl (sgN (by decide)) rfl (by decide) rfl rfl ⟨(Nat.le_of_ble_eq_true rfl), (Nat.le_of_ble_eq_true rfl)⟩ ⟨rfl, rfl⟩ ⟨(Nat.zero_le _), (Nat.zero_le _)⟩ (Nat.le_of_ble_eq_true rfl) ?_
      refine g_if_ne X (tgt := 77) dX10_not2_72 (by decide) (fun c72 => ?_) (fun c72 => ?_)
      · have hf := ie c72 hf
        refine g_pick [1, 0] (lv' := [(0, .ref (ad 63)), (1, .int r53)]) rfl ?_
        exact w_X10_not2_77 X hret r53 m69 hf
      · have hf := it c72 hf
        refine g_iload_n X 0 dX10_not2_75 rfl rfl ?_
        obtain ⟨rfl, rfl⟩ := lf2 hf
        exact hret 76 _ dX10_not2_76 rfl
  · have hf := ie c15 hf
    refine g_aload_n X 0 dX10_not2_18 rfl rfl ?_
    obtain ⟨r19, m19, h19, hf⟩ := bi_i hf
    refine g_eVI X 63 9 [] kV_X10_224 (c_X10_opens h19) dX10_not2_19 rfl rfl (sgN (by decide)) rfl (by decide) rfl rfl ⟨(Nat.le_of_ble_eq_true rfl), (Nat.le_of_ble_eq_true rfl)⟩ ⟨rfl, rfl⟩ ⟨(Nat.zero_le _), (Nat.zero_le _)⟩ (Nat.le_of_ble_eq_true rfl) ?_
    refine g_if_ne X (tgt := 27) dX10_not2_22 (by decide) (fun c22 => ?_) (fun c22 => ?_)
    · have hf := ie c22 hf
      refine g_aload_n X 0 dX10_not2_27 rfl rfl ?_
      obtain ⟨r28, m28, h28, hf⟩ := bi_i hf
      refine g_eVI X 63 9 [] kV_X10_281 (c_X10_not3 h28) dX10_not2_28 rfl rfl (sgN (by decide)) rfl (by decide) rfl rfl ⟨(Nat.le_of_ble_eq_true rfl), (Nat.le_of_ble_eq_true rfl)⟩ ⟨rfl, rfl⟩ ⟨(Nat.zero_le _), (Nat.zero_le _)⟩ (Nat.le_of_ble_eq_true rfl) ?_
      refine g_istore_n X (lv' := [(1, .int r28), (0, .ref (ad 63))]) dX10_not2_31 rfl (by decide) rfl ?_
      refine g_aload_n X 1 dX10_not2_32 rfl rfl ?_
      refine g_dup X dX10_not2_33 rfl ?_
      refine g_getI X 63 9 25 dX10_not2_34 (sgN (by decide)) rfl (by decide) rfl iw_X10 (by decide) rfl q_fl_X10_190 ?_
      refine g_iconst X (v := 1) dX10_not2_37 (by decide) ?_
      refine g_isub X dX10_not2_38 ?_
      refine g_putI X (tyf := tyX10) 63 9 25 dX10_not2_39 (sgN (by decide)) rfl (by decide) rfl iw_X10 (by decide) rfl q_fl_X10_190 tyX10_ok nmX10 rfl rfl rfl ?_
      refine g_iload_n X 0 dX10_not2_42 rfl rfl ?_
      refine g_if_ne X (tgt := 50) dX10_not2_43 (by decide) (fun c43 => ?_) (fun c43 => ?_)
      · have hf := ie c43 hf
        refine g_iconst X (v := 0) dX10_not2_50 (by decide) ?_
        obtain ⟨rfl, rfl⟩ := lf2 hf
        exact hret 51 _ dX10_not2_51 rfl
      · have hf := it c43 hf
        refine g_iconst X (v := 1) dX10_not2_46 (by decide) ?_
        refine g_goto X (tgt := 51) dX10_not2_47 (by decide) ?_
        obtain ⟨rfl, rfl⟩ := lf2 hf
        exact hret 51 _ dX10_not2_51 rfl
    · have hf := it c22 hf
      refine g_iconst X (v := 0) dX10_not2_25 (by decide) ?_
      obtain ⟨rfl, rfl⟩ := lf2 hf
      exact hret 26 _ dX10_not2_26 rfl

theorem kV_X10_299 : wcV RX10 299 RX10 yX10_not2 cX10_not2 4 (some .int) 0 := ⟨q_ml_X10_299, q_im_yX10_not2, q_se_yX10_not2, q_in_X10, q_co_yX10_not2, by decide +kernel⟩

def X10_both2_45 (k5 : Int32 → Mem → Option (Int32 × Mem)) (s0 : Int32) (m0 : Mem) : Option (Int32 × Mem) :=
  k5 s0 m0
def X10_both2_44 (k5 : Int32 → Mem → Option (Int32 × Mem)) (m0 : Mem) : Option (Int32 × Mem) :=
  X10_both2_45 k5 (0 : Int32) m0
def X10_both2_5 : Nat → Int32 → Mem → Option (Int32 × Mem)
  | 0, _, _ => none
  | n + 1, v1, m0 =>
    bi (X10_isWord (97 : Int32) (110 : Int32) (100 : Int32) (0 : Int32) (0 : Int32) (0 : Int32) (0 : Int32) (0 : Int32) m0) fun r17 m17 =>
    if r17 = 0 then
      some (v1, m17)
    else
      bv (X10_next m17) fun m24 =>
      bi (X10_not2 m24) fun r28 m28 =>
      if v1 = 0 then
        X10_both2_44 (X10_both2_5 n) m28
      else
        if r28 = 0 then
          X10_both2_44 (X10_both2_5 n) m28
        else
          X10_both2_45 (X10_both2_5 n) (1 : Int32) m28
def X10_both2 (m0 : Mem) : Option (Int32 × Mem) :=
  bi (X10_not2 m0) fun r1 m1 =>
  X10_both2_5 10000 r1 m1
abbrev rmX10_both2 : Room := { frames := 26, cells := 0, slots := 0, locals := 575 }
set_option maxRecDepth 100000 in
set_option maxHeartbeats 4000000 in
theorem w_X10_both2_45 {Γ : Ga} {b : Nat} {ad : Nat → Nat} {nt : Nat} {z : Nat → Nat} {k5 : Int32 → Mem → Option (Int32 × Mem)} {r9 : Int32} {m9 : Mem} (X : Cx Γ b cX10_both2 3 RX10 (some .int) rmX10_both2) (hret : ∀ (pc : Nat) (lv : List (Nat × Value)), decode cX10_both2 pc = .ok (.ireturn, 1) → narrow .int (.int r9) = .int r9 → Go Γ b (sg ad nt z) 0 0 pc lv [.int r9] m9) (hk5 : ∀ (v1 : Int32) (m0 : Mem), k5 v1 m0 = some (r9, m9) → Go Γ b (sg ad nt z) 0 0 5 [(0, .ref (ad 63)), (1, .int v1)] [] m0) (s0 : Int32) (m0 : Mem) (hf : X10_both2_45 k5 s0 m0 = some (r9, m9)) : Go Γ b (sg ad nt z) 0 0 45 [(0, .ref (ad 63))] [.int s0] m0 := by
  refine g_istore_n X (lv' := [(1, .int s0), (0, .ref (ad 63))]) dX10_both2_45 rfl (by decide) rfl ?_
  refine g_goto X (tgt := 5) dX10_both2_46 (by decide) ?_
  refine g_pick [1, 0] (lv' := [(0, .ref (ad 63)), (1, .int s0)]) rfl ?_
  exact hk5 s0 m0 hf
set_option maxRecDepth 100000 in
set_option maxHeartbeats 4000000 in
theorem w_X10_both2_44 {Γ : Ga} {b : Nat} {ad : Nat → Nat} {nt : Nat} {z : Nat → Nat} {k5 : Int32 → Mem → Option (Int32 × Mem)} {r9 : Int32} {m9 : Mem} (X : Cx Γ b cX10_both2 3 RX10 (some .int) rmX10_both2) (hret : ∀ (pc : Nat) (lv : List (Nat × Value)), decode cX10_both2 pc = .ok (.ireturn, 1) → narrow .int (.int r9) = .int r9 → Go Γ b (sg ad nt z) 0 0 pc lv [.int r9] m9) (hk5 : ∀ (v1 : Int32) (m0 : Mem), k5 v1 m0 = some (r9, m9) → Go Γ b (sg ad nt z) 0 0 5 [(0, .ref (ad 63)), (1, .int v1)] [] m0) (m0 : Mem) (hf : X10_both2_44 k5 m0 = some (r9, m9)) : Go Γ b (sg ad nt z) 0 0 44 [(0, .ref (ad 63))] [] m0 := by
  refine g_iconst X (v := 0) dX10_both2_44 (by decide) ?_
  exact w_X10_both2_45 X hret hk5 (0 : Int32) m0 hf
set_option maxRecDepth 100000 in
set_option maxHeartbeats 4000000 in
theorem w_X10_both2_5 {Γ : Ga} {b : Nat} {ad : Nat → Nat} {nt : Nat} {z : Nat → Nat} {r9 : Int32} {m9 : Mem} (X : Cx Γ b cX10_both2 3 RX10 (some .int) rmX10_both2) (hret : ∀ (pc : Nat) (lv : List (Nat × Value)), decode cX10_both2 pc = .ok (.ireturn, 1) → narrow .int (.int r9) = .int r9 → Go Γ b (sg ad nt z) 0 0 pc lv [.int r9] m9) : ∀ (n : Nat) (v1 : Int32) (m0 : Mem), X10_both2_5 n v1 m0 = some (r9, m9) → Go Γ b (sg ad nt z) 0 0 5 [(0, .ref (ad 63)), (1, .int v1)] [] m0 := by
  intro n
  induction n with
  | zero =>
    intro v1 m0 hf
    cases hf
  | succ n ih =>
    intro v1 m0 hf
    refine g_aload_n X 0 dX10_both2_5 rfl rfl ?_
    refine g_bipush X (v := 97) dX10_both2_6 (by decide) ?_
    refine g_bipush X (v := 110) dX10_both2_8 (by decide) ?_
    refine g_bipush X (v := 100) dX10_both2_10 (by decide) ?_
    refine g_iconst X (v := 0) dX10_both2_12 (by decide) ?_
    refine g_iconst X (v := 0) dX10_both2_13 (by decide) ?_
    refine g_iconst X (v := 0) dX10_both2_14 (by decide) ?_
    refine g_iconst X (v := 0) dX10_both2_15 (by decide) ?_
    refine g_iconst X (v := 0) dX10_both2_16 (by decide) ?_
    obtain ⟨r17, m17, h17, hf⟩ := bi_i hf
    refine g_eVI X 63 9 [.int (97 : Int32), .int (110 : Int32), .int (100 : Int32), .int (0 : Int32), .int (0 : Int32), .int (0 : Int32), .int (0 : Int32), .int (0 : Int32)] kV_X10_199 (c_X10_isWord h17) dX10_both2_17 rfl rfl (sgN (by decide)) rfl (by decide) rfl rfl ⟨(Nat.le_of_ble_eq_true rfl), (Nat.le_of_ble_eq_true rfl)⟩ ⟨rfl, rfl⟩ ⟨(Nat.zero_le _), (Nat.zero_le _)⟩ (Nat.le_of_ble_eq_true rfl) ?_
    refine g_if_eq X (tgt := 49) dX10_both2_20 (by decide) (fun c20 => ?_) (fun c20 => ?_)
    · have hf := it c20 hf
      refine g_iload_n X 1 dX10_both2_49 rfl rfl ?_
      obtain ⟨rfl, rfl⟩ := lf2 hf
      exact hret 50 _ dX10_both2_50 rfl
    · have hf := ie c20 hf
      refine g_aload_n X 0 dX10_both2_23 rfl rfl ?_
      obtain ⟨m24, h24, hf⟩ := bv_i hf
      refine g_eVV X 63 9 [] kV_X10_196 (c_X10_next h24) dX10_both2_24 rfl rfl (sgN (by decide)) rfl (by decide) rfl rfl ⟨(Nat.le_of_ble_eq_true rfl), (Nat.le_of_ble_eq_true rfl)⟩ ⟨rfl, rfl⟩ ⟨(Nat.zero_le _), (Nat.zero_le _)⟩ (Nat.le_of_ble_eq_true rfl) ?_
      refine g_aload_n X 0 dX10_both2_27 rfl rfl ?_
      obtain ⟨r28, m28, h28, hf⟩ := bi_i hf
      refine g_eVI X 63 9 [] kV_X10_299 (c_X10_not2 h28) dX10_both2_28 rfl rfl (sgN (by decide)) rfl (by decide) rfl rfl ⟨(Nat.le_of_ble_eq_true rfl), (Nat.le_of_ble_eq_true rfl)⟩ ⟨rfl, rfl⟩ ⟨(Nat.zero_le _), (Nat.zero_le _)⟩ (Nat.le_of_ble_eq_true rfl) ?_
      refine g_istore_n X (lv' := [(2, .int r28), (0, .ref (ad 63)), (1, .int v1)]) dX10_both2_31 rfl (by decide) rfl ?_
      refine g_iload_n X 2 dX10_both2_32 rfl rfl ?_
      refine g_if_eq X (tgt := 44) dX10_both2_33 (by decide) (fun c33 => ?_) (fun c33 => ?_)
      · have hf := it c33 hf
        refine g_pick [1] (lv' := [(0, .ref (ad 63))]) rfl ?_
        exact w_X10_both2_44 X hret ih m28 hf
      · have hf := ie c33 hf
        refine g_iload_n X 0 dX10_both2_36 rfl rfl ?_
        refine g_if_eq X (tgt := 44) dX10_both2_37 (by decide) (fun c37 => ?_) (fun c37 => ?_)
        · have hf := it c37 hf
          refine g_pick [1] (lv' := [(0, .ref (ad 63))]) rfl ?_
          exact w_X10_both2_44 X hret ih m28 hf
        · have hf := ie c37 hf
          refine g_iconst X (v := 1) dX10_both2_40 (by decide) ?_
          refine g_goto X (tgt := 45) dX10_both2_41 (by decide) ?_
          refine g_pick [1] (lv' := [(0, .ref (ad 63))]) rfl ?_
          exact w_X10_both2_45 X hret ih (1 : Int32) m28 hf
set_option maxRecDepth 100000 in
set_option maxHeartbeats 4000000 in
theorem c_X10_both2 {l : Launch} {G : GG} {b : Nat} {ad : Nat → Nat} {nt : Nat} {z : Nat → Nat} {m0 : Mem} {r9 : Int32} {m9 : Mem} (hf : X10_both2 m0 = some (r9, m9)) : MtI l yX10_both2 cX10_both2 3 (some .int) rmX10_both2 G b (sg ad nt z) m0 [.ref (ad 63)] (pEI r9 (sg ad nt z) m9) := by
  refine mtI_of (by decide) (Nat.le_of_ble_eq_true rfl) .int rfl (fun Γ hG X hnm hr => ?_)
  have hret : ∀ (pc : Nat) (lv : List (Nat × Value)), decode cX10_both2 pc = .ok (.ireturn, 1) → narrow .int (.int r9) = .int r9 → Go Γ b (sg ad nt z) 0 0 pc lv [.int r9] m9 := fun pc lv d hn => hr pc lv _ _ _ d ⟨rfl, rfl, rfl⟩ hn
  show Go Γ b (sg ad nt z) 0 0 0 [(0, .ref (ad 63))] [] m0
  refine g_aload_n X 0 dX10_both2_0 rfl rfl ?_
  obtain ⟨r1, m1, h1, hf⟩ := bi_i hf
  refine g_eVI X 63 9 [] kV_X10_299 (c_X10_not2 h1) dX10_both2_1 rfl rfl (sgN (by decide)) rfl (by decide) rfl rfl ⟨(Nat.le_of_ble_eq_true rfl), (Nat.le_of_ble_eq_true rfl)⟩ ⟨rfl, rfl⟩ ⟨(Nat.zero_le _), (Nat.zero_le _)⟩ (Nat.le_of_ble_eq_true rfl) ?_
  refine g_istore_n X (lv' := [(1, .int r1), (0, .ref (ad 63))]) dX10_both2_4 rfl (by decide) rfl ?_
  refine g_pick [1, 0] (lv' := [(0, .ref (ad 63)), (1, .int r1)]) rfl ?_
  exact w_X10_both2_5 X hret 10000 r1 m1 hf

theorem kV_X10_302 : wcV RX10 302 RX10 yX10_both2 cX10_both2 3 (some .int) 0 := ⟨q_ml_X10_302, q_im_yX10_both2, q_se_yX10_both2, q_in_X10, q_co_yX10_both2, by decide +kernel⟩

def X10_either2_44 (k5 : Int32 → Mem → Option (Int32 × Mem)) (s0 : Int32) (m0 : Mem) : Option (Int32 × Mem) :=
  k5 s0 m0
def X10_either2_39 (k5 : Int32 → Mem → Option (Int32 × Mem)) (m0 : Mem) : Option (Int32 × Mem) :=
  X10_either2_44 k5 (1 : Int32) m0
def X10_either2_5 : Nat → Int32 → Mem → Option (Int32 × Mem)
  | 0, _, _ => none
  | n + 1, v1, m0 =>
    bi (X10_isWord (111 : Int32) (114 : Int32) (0 : Int32) (0 : Int32) (0 : Int32) (0 : Int32) (0 : Int32) (0 : Int32) m0) fun r16 m16 =>
    if r16 = 0 then
      some (v1, m16)
    else
      bv (X10_next m16) fun m23 =>
      bi (X10_both2 m23) fun r27 m27 =>
      if v1 = 0 then
        if r27 = 0 then
          X10_either2_44 (X10_either2_5 n) (0 : Int32) m27
        else
          X10_either2_39 (X10_either2_5 n) m27
      else
        X10_either2_39 (X10_either2_5 n) m27
def X10_either2 (m0 : Mem) : Option (Int32 × Mem) :=
  bi (X10_both2 m0) fun r1 m1 =>
  X10_either2_5 10000 r1 m1
abbrev rmX10_either2 : Room := { frames := 27, cells := 0, slots := 0, locals := 597 }
set_option maxRecDepth 100000 in
set_option maxHeartbeats 4000000 in
theorem w_X10_either2_44 {Γ : Ga} {b : Nat} {ad : Nat → Nat} {nt : Nat} {z : Nat → Nat} {k5 : Int32 → Mem → Option (Int32 × Mem)} {r9 : Int32} {m9 : Mem} (X : Cx Γ b cX10_either2 3 RX10 (some .int) rmX10_either2) (hret : ∀ (pc : Nat) (lv : List (Nat × Value)), decode cX10_either2 pc = .ok (.ireturn, 1) → narrow .int (.int r9) = .int r9 → Go Γ b (sg ad nt z) 0 0 pc lv [.int r9] m9) (hk5 : ∀ (v1 : Int32) (m0 : Mem), k5 v1 m0 = some (r9, m9) → Go Γ b (sg ad nt z) 0 0 5 [(0, .ref (ad 63)), (1, .int v1)] [] m0) (s0 : Int32) (m0 : Mem) (hf : X10_either2_44 k5 s0 m0 = some (r9, m9)) : Go Γ b (sg ad nt z) 0 0 44 [(0, .ref (ad 63))] [.int s0] m0 := by
  refine g_istore_n X (lv' := [(1, .int s0), (0, .ref (ad 63))]) dX10_either2_44 rfl (by decide) rfl ?_
  refine g_goto X (tgt := 5) dX10_either2_45 (by decide) ?_
  refine g_pick [1, 0] (lv' := [(0, .ref (ad 63)), (1, .int s0)]) rfl ?_
  exact hk5 s0 m0 hf
set_option maxRecDepth 100000 in
set_option maxHeartbeats 4000000 in
theorem w_X10_either2_39 {Γ : Ga} {b : Nat} {ad : Nat → Nat} {nt : Nat} {z : Nat → Nat} {k5 : Int32 → Mem → Option (Int32 × Mem)} {r9 : Int32} {m9 : Mem} (X : Cx Γ b cX10_either2 3 RX10 (some .int) rmX10_either2) (hret : ∀ (pc : Nat) (lv : List (Nat × Value)), decode cX10_either2 pc = .ok (.ireturn, 1) → narrow .int (.int r9) = .int r9 → Go Γ b (sg ad nt z) 0 0 pc lv [.int r9] m9) (hk5 : ∀ (v1 : Int32) (m0 : Mem), k5 v1 m0 = some (r9, m9) → Go Γ b (sg ad nt z) 0 0 5 [(0, .ref (ad 63)), (1, .int v1)] [] m0) (m0 : Mem) (hf : X10_either2_39 k5 m0 = some (r9, m9)) : Go Γ b (sg ad nt z) 0 0 39 [(0, .ref (ad 63))] [] m0 := by
  refine g_iconst X (v := 1) dX10_either2_39 (by decide) ?_
  refine g_goto X (tgt := 44) dX10_either2_40 (by decide) ?_
  exact w_X10_either2_44 X hret hk5 (1 : Int32) m0 hf
set_option maxRecDepth 100000 in
set_option maxHeartbeats 4000000 in
theorem w_X10_either2_5 {Γ : Ga} {b : Nat} {ad : Nat → Nat} {nt : Nat} {z : Nat → Nat} {r9 : Int32} {m9 : Mem} (X : Cx Γ b cX10_either2 3 RX10 (some .int) rmX10_either2) (hret : ∀ (pc : Nat) (lv : List (Nat × Value)), decode cX10_either2 pc = .ok (.ireturn, 1) → narrow .int (.int r9) = .int r9 → Go Γ b (sg ad nt z) 0 0 pc lv [.int r9] m9) : ∀ (n : Nat) (v1 : Int32) (m0 : Mem), X10_either2_5 n v1 m0 = some (r9, m9) → Go Γ b (sg ad nt z) 0 0 5 [(0, .ref (ad 63)), (1, .int v1)] [] m0 := by
  intro n
  induction n with
  | zero =>
    intro v1 m0 hf
    cases hf
  | succ n ih =>
    intro v1 m0 hf
    refine g_aload_n X 0 dX10_either2_5 rfl rfl ?_
    refine g_bipush X (v := 111) dX10_either2_6 (by decide) ?_
    refine g_bipush X (v := 114) dX10_either2_8 (by decide) ?_
    refine g_iconst X (v := 0) dX10_either2_10 (by decide) ?_
    refine g_iconst X (v := 0) dX10_either2_11 (by decide) ?_
    refine g_iconst X (v := 0) dX10_either2_12 (by decide) ?_
    refine g_iconst X (v := 0) dX10_either2_13 (by decide) ?_
    refine g_iconst X (v := 0) dX10_either2_14 (by decide) ?_
    refine g_iconst X (v := 0) dX10_either2_15 (by decide) ?_
    obtain ⟨r16, m16, h16, hf⟩ := bi_i hf
    refine g_eVI X 63 9 [.int (111 : Int32), .int (114 : Int32), .int (0 : Int32), .int (0 : Int32), .int (0 : Int32), .int (0 : Int32), .int (0 : Int32), .int (0 : Int32)] kV_X10_199 (c_X10_isWord h16) dX10_either2_16 rfl rfl (sgN (by decide)) rfl (by decide) rfl rfl ⟨(Nat.le_of_ble_eq_true rfl), (Nat.le_of_ble_eq_true rfl)⟩ ⟨rfl, rfl⟩ ⟨(Nat.zero_le _), (Nat.zero_le _)⟩ (Nat.le_of_ble_eq_true rfl) ?_
    refine g_if_eq X (tgt := 48) dX10_either2_19 (by decide) (fun c19 => ?_) (fun c19 => ?_)
    · have hf := it c19 hf
      refine g_iload_n X 1 dX10_either2_48 rfl rfl ?_
      obtain ⟨rfl, rfl⟩ := lf2 hf
      exact hret 49 _ dX10_either2_49 rfl
    · have hf := ie c19 hf
      refine g_aload_n X 0 dX10_either2_22 rfl rfl ?_
      obtain ⟨m23, h23, hf⟩ := bv_i hf
      refine g_eVV X 63 9 [] kV_X10_196 (c_X10_next h23) dX10_either2_23 rfl rfl (sgN (by decide)) rfl (by decide) rfl rfl ⟨(Nat.le_of_ble_eq_true rfl), (Nat.le_of_ble_eq_true rfl)⟩ ⟨rfl, rfl⟩ ⟨(Nat.zero_le _), (Nat.zero_le _)⟩ (Nat.le_of_ble_eq_true rfl) ?_
      refine g_aload_n X 0 dX10_either2_26 rfl rfl ?_
      obtain ⟨r27, m27, h27, hf⟩ := bi_i hf
      refine g_eVI X 63 9 [] kV_X10_302 (c_X10_both2 h27) dX10_either2_27 rfl rfl (sgN (by decide)) rfl (by decide) rfl rfl ⟨(Nat.le_of_ble_eq_true rfl), (Nat.le_of_ble_eq_true rfl)⟩ ⟨rfl, rfl⟩ ⟨(Nat.zero_le _), (Nat.zero_le _)⟩ (Nat.le_of_ble_eq_true rfl) ?_
      refine g_istore_n X (lv' := [(2, .int r27), (0, .ref (ad 63)), (1, .int v1)]) dX10_either2_30 rfl (by decide) rfl ?_
      refine g_iload_n X 2 dX10_either2_31 rfl rfl ?_
      refine g_if_ne X (tgt := 39) dX10_either2_32 (by decide) (fun c32 => ?_) (fun c32 => ?_)
      · have hf := ie c32 hf
        refine g_pick [1] (lv' := [(0, .ref (ad 63))]) rfl ?_
        exact w_X10_either2_39 X hret ih m27 hf
      · have hf := it c32 hf
        refine g_iload_n X 0 dX10_either2_35 rfl rfl ?_
        refine g_if_eq X (tgt := 43) dX10_either2_36 (by decide) (fun c36 => ?_) (fun c36 => ?_)
        · have hf := it c36 hf
          refine g_iconst X (v := 0) dX10_either2_43 (by decide) ?_
          refine g_pick [1] (lv' := [(0, .ref (ad 63))]) rfl ?_
          exact w_X10_either2_44 X hret ih (0 : Int32) m27 hf
        · have hf := ie c36 hf
          refine g_pick [1] (lv' := [(0, .ref (ad 63))]) rfl ?_
          exact w_X10_either2_39 X hret ih m27 hf
set_option maxRecDepth 100000 in
set_option maxHeartbeats 4000000 in
theorem c_X10_either2 {l : Launch} {G : GG} {b : Nat} {ad : Nat → Nat} {nt : Nat} {z : Nat → Nat} {m0 : Mem} {r9 : Int32} {m9 : Mem} (hf : X10_either2 m0 = some (r9, m9)) : MtI l yX10_either2 cX10_either2 3 (some .int) rmX10_either2 G b (sg ad nt z) m0 [.ref (ad 63)] (pEI r9 (sg ad nt z) m9) := by
  refine mtI_of (by decide) (Nat.le_of_ble_eq_true rfl) .int rfl (fun Γ hG X hnm hr => ?_)
  have hret : ∀ (pc : Nat) (lv : List (Nat × Value)), decode cX10_either2 pc = .ok (.ireturn, 1) → narrow .int (.int r9) = .int r9 → Go Γ b (sg ad nt z) 0 0 pc lv [.int r9] m9 := fun pc lv d hn => hr pc lv _ _ _ d ⟨rfl, rfl, rfl⟩ hn
  show Go Γ b (sg ad nt z) 0 0 0 [(0, .ref (ad 63))] [] m0
  refine g_aload_n X 0 dX10_either2_0 rfl rfl ?_
  obtain ⟨r1, m1, h1, hf⟩ := bi_i hf
  refine g_eVI X 63 9 [] kV_X10_302 (c_X10_both2 h1) dX10_either2_1 rfl rfl (sgN (by decide)) rfl (by decide) rfl rfl ⟨(Nat.le_of_ble_eq_true rfl), (Nat.le_of_ble_eq_true rfl)⟩ ⟨rfl, rfl⟩ ⟨(Nat.zero_le _), (Nat.zero_le _)⟩ (Nat.le_of_ble_eq_true rfl) ?_
  refine g_istore_n X (lv' := [(1, .int r1), (0, .ref (ad 63))]) dX10_either2_4 rfl (by decide) rfl ?_
  refine g_pick [1, 0] (lv' := [(0, .ref (ad 63)), (1, .int r1)]) rfl ?_
  exact w_X10_either2_5 X hret 10000 r1 m1 hf

theorem kV_X10_305 : wcV RX10 305 RX10 yX10_either2 cX10_either2 3 (some .int) 0 := ⟨q_ml_X10_305, q_im_yX10_either2, q_se_yX10_either2, q_in_X10, q_co_yX10_either2, by decide +kernel⟩

def X10_atom1_157 (v1 : Int32) (m0 : Mem) : Option (Int32 × Mem) :=
  bv (X10_fail m0) fun m158 =>
  some (v1, m158)
def X10_atom1_123 (v1 : Int32) (m0 : Mem) : Option (Int32 × Mem) :=
  if (m0.1 63 26) = 0 then
    if (m0.1 63 22) = (1 : Int32) then
      bi (X10_name m0) fun r139 m139 =>
      if (m139.1 63 26) = 0 then
        bv (X10_next m139) fun m151 =>
        some (r139, m151)
      else
        some (r139, m139)
    else
      X10_atom1_157 v1 m0
  else
    X10_atom1_157 v1 m0
def X10_atom1_71 (v1 : Int32) (m0 : Mem) : Option (Int32 × Mem) :=
  if ((pI m0 63 25 ((m0.1 63 25) - (1 : Int32))).1 63 26) = 0 then
    bv (X10_next (pI m0 63 25 ((m0.1 63 25) - (1 : Int32)))) fun m89 =>
    some (v1, m89)
  else
    some (v1, pI m0 63 25 ((m0.1 63 25) - (1 : Int32)))
def X10_atom1 (m0 : Mem) : Option (Int32 × Mem) :=
  bi (X10_isSign (45 : Int32) m0) fun r5 m5 =>
  if r5 = 0 then
    bi (X10_isSign (40 : Int32) m5) fun r40 m40 =>
    if r40 = 0 then
      if (m40.1 63 26) = 0 then
        if (m40.1 63 22) = (2 : Int32) then
          bv (X10_next m40) fun m117 =>
          some ((m40.2 63 24).toInt32, m117)
        else
          X10_atom1_123 (0 : Int32) m40
      else
        X10_atom1_123 (0 : Int32) m40
    else
      bi (X10_opens m40) fun r47 m47 =>
      if r47 = 0 then
        some ((0 : Int32), m47)
      else
        bi (X10_either2 m47) fun r54 m54 =>
        bi (X10_isSign (41 : Int32) m54) fun r61 m61 =>
        if r61 = 0 then
          bv (X10_fail m61) fun m68 =>
          X10_atom1_71 r54 m68
        else
          X10_atom1_71 r54 m61
  else
    bi (X10_opens m5) fun r12 m12 =>
    if r12 = 0 then
      some ((0 : Int32), m12)
    else
      bi (X10_atom2 m12) fun r19 m19 =>
      some (-r19, pI m19 63 25 ((m19.1 63 25) - (1 : Int32)))
abbrev rmX10_atom1 : Room := { frames := 28, cells := 0, slots := 0, locals := 619 }
set_option maxRecDepth 100000 in
set_option maxHeartbeats 4000000 in
theorem w_X10_atom1_157 {Γ : Ga} {b : Nat} {ad : Nat → Nat} {nt : Nat} {z : Nat → Nat} {r9 : Int32} {m9 : Mem} (X : Cx Γ b cX10_atom1 2 RX10 (some .int) rmX10_atom1) (hret : ∀ (pc : Nat) (lv : List (Nat × Value)), decode cX10_atom1 pc = .ok (.ireturn, 1) → narrow .int (.int r9) = .int r9 → Go Γ b (sg ad nt z) 0 0 pc lv [.int r9] m9) (v1 : Int32) (m0 : Mem) (hf : X10_atom1_157 v1 m0 = some (r9, m9)) : Go Γ b (sg ad nt z) 0 0 157 [(0, .ref (ad 63)), (1, .int v1)] [] m0 := by
  refine g_aload_n X 0 dX10_atom1_157 rfl rfl ?_
  obtain ⟨m158, h158, hf⟩ := bv_i hf
  refine g_eVV X 63 9 [] kV_X10_193 (c_X10_fail h158) dX10_atom1_158 rfl rfl (sgN (by decide)) rfl (by decide) rfl rfl ⟨(Nat.le_of_ble_eq_true rfl), (Nat.le_of_ble_eq_true rfl)⟩ ⟨rfl, rfl⟩ ⟨(Nat.zero_le _), (Nat.zero_le _)⟩ (Nat.le_of_ble_eq_true rfl) ?_
  refine g_iload_n X 1 dX10_atom1_161 rfl rfl ?_
  obtain ⟨rfl, rfl⟩ := lf2 hf
  exact hret 162 _ dX10_atom1_162 rfl
set_option maxRecDepth 100000 in
set_option maxHeartbeats 4000000 in
theorem w_X10_atom1_123 {Γ : Ga} {b : Nat} {ad : Nat → Nat} {nt : Nat} {z : Nat → Nat} {r9 : Int32} {m9 : Mem} (X : Cx Γ b cX10_atom1 2 RX10 (some .int) rmX10_atom1) (hret : ∀ (pc : Nat) (lv : List (Nat × Value)), decode cX10_atom1 pc = .ok (.ireturn, 1) → narrow .int (.int r9) = .int r9 → Go Γ b (sg ad nt z) 0 0 pc lv [.int r9] m9) (v1 : Int32) (m0 : Mem) (hf : X10_atom1_123 v1 m0 = some (r9, m9)) : Go Γ b (sg ad nt z) 0 0 123 [(0, .ref (ad 63)), (1, .int v1)] [] m0 := by
  refine g_aload_n X 0 dX10_atom1_123 rfl rfl ?_
  refine g_getI X 63 9 26 dX10_atom1_124 (sgN (by decide)) rfl (by decide) rfl iw_X10 (by decide) rfl q_fl_X10_180 ?_
  refine g_if_ne X (tgt := 157) dX10_atom1_127 (by decide) (fun c127 => ?_) (fun c127 => ?_)
  · have hf := ie c127 hf
    exact w_X10_atom1_157 X hret v1 m0 hf
  · have hf := it c127 hf
    refine g_aload_n X 0 dX10_atom1_130 rfl rfl ?_
    refine g_getI X 63 9 22 dX10_atom1_131 (sgN (by decide)) rfl (by decide) rfl iw_X10 (by decide) rfl q_fl_X10_165 ?_
    refine g_iconst X (v := 1) dX10_atom1_134 (by decide) ?_
    refine g_icmp_ne X (tgt := 157) dX10_atom1_135 (by decide) (fun c135 => ?_) (fun c135 => ?_)
    · have hf := ie c135 hf
      exact w_X10_atom1_157 X hret v1 m0 hf
    · have hf := it c135 hf
      refine g_aload_n X 0 dX10_atom1_138 rfl rfl ?_
      obtain ⟨r139, m139, h139, hf⟩ := bi_i hf
      refine g_eVI X 63 9 [] kV_X10_228 (c_X10_name h139) dX10_atom1_139 rfl rfl (sgN (by decide)) rfl (by decide) rfl rfl ⟨(Nat.le_of_ble_eq_true rfl), (Nat.le_of_ble_eq_true rfl)⟩ ⟨rfl, rfl⟩ ⟨(Nat.zero_le _), (Nat.zero_le _)⟩ (Nat.le_of_ble_eq_true rfl) ?_
      refine g_istore_n X (lv' := [(1, .int r139), (0, .ref (ad 63))]) dX10_atom1_142 rfl (by decide) rfl ?_
      refine g_aload_n X 1 dX10_atom1_143 rfl rfl ?_
      refine g_getI X 63 9 26 dX10_atom1_144 (sgN (by decide)) rfl (by decide) rfl iw_X10 (by decide) rfl q_fl_X10_180 ?_
      refine g_if_ne X (tgt := 161) dX10_atom1_147 (by decide) (fun c147 => ?_) (fun c147 => ?_)
      · have hf := ie c147 hf
        refine g_iload_n X 0 dX10_atom1_161 rfl rfl ?_
        obtain ⟨rfl, rfl⟩ := lf2 hf
        exact hret 162 _ dX10_atom1_162 rfl
      · have hf := it c147 hf
        refine g_aload_n X 1 dX10_atom1_150 rfl rfl ?_
        obtain ⟨m151, h151, hf⟩ := bv_i hf
        refine g_eVV X 63 9 [] kV_X10_196 (c_X10_next h151) dX10_atom1_151 rfl rfl (sgN (by decide)) rfl (by decide) rfl rfl ⟨(Nat.le_of_ble_eq_true rfl), (Nat.le_of_ble_eq_true rfl)⟩ ⟨rfl, rfl⟩ ⟨(Nat.zero_le _), (Nat.zero_le _)⟩ (Nat.le_of_ble_eq_true rfl) ?_
        refine g_goto X (tgt := 161) dX10_atom1_154 (by decide) ?_
        refine g_iload_n X 0 dX10_atom1_161 rfl rfl ?_
        obtain ⟨rfl, rfl⟩ := lf2 hf
        exact hret 162 _ dX10_atom1_162 rfl
set_option maxRecDepth 100000 in
set_option maxHeartbeats 4000000 in
theorem w_X10_atom1_71 {Γ : Ga} {b : Nat} {ad : Nat → Nat} {nt : Nat} {z : Nat → Nat} {r9 : Int32} {m9 : Mem} (X : Cx Γ b cX10_atom1 2 RX10 (some .int) rmX10_atom1) (hret : ∀ (pc : Nat) (lv : List (Nat × Value)), decode cX10_atom1 pc = .ok (.ireturn, 1) → narrow .int (.int r9) = .int r9 → Go Γ b (sg ad nt z) 0 0 pc lv [.int r9] m9) (v1 : Int32) (m0 : Mem) (hf : X10_atom1_71 v1 m0 = some (r9, m9)) : Go Γ b (sg ad nt z) 0 0 71 [(0, .ref (ad 63)), (1, .int v1)] [] m0 := by
  refine g_aload_n X 0 dX10_atom1_71 rfl rfl ?_
  refine g_dup X dX10_atom1_72 rfl ?_
  refine g_getI X 63 9 25 dX10_atom1_73 (sgN (by decide)) rfl (by decide) rfl iw_X10 (by decide) rfl q_fl_X10_190 ?_
  refine g_iconst X (v := 1) dX10_atom1_76 (by decide) ?_
  refine g_isub X dX10_atom1_77 ?_
  refine g_putI X (tyf := tyX10) 63 9 25 dX10_atom1_78 (sgN (by decide)) rfl (by decide) rfl iw_X10 (by decide) rfl q_fl_X10_190 tyX10_ok nmX10 rfl rfl rfl ?_
  refine g_aload_n X 0 dX10_atom1_81 rfl rfl ?_
  refine g_getI X 63 9 26 dX10_atom1_82 (sgN (by decide)) rfl (by decide) rfl iw_X10 (by decide) rfl q_fl_X10_180 ?_
  refine g_if_ne X (tgt := 161) dX10_atom1_85 (by decide) (fun c85 => ?_) (fun c85 => ?_)
  · have hf := ie c85 hf
    refine g_iload_n X 1 dX10_atom1_161 rfl rfl ?_
    obtain ⟨rfl, rfl⟩ := lf2 hf
    exact hret 162 _ dX10_atom1_162 rfl
  · have hf := it c85 hf
    refine g_aload_n X 0 dX10_atom1_88 rfl rfl ?_
    obtain ⟨m89, h89, hf⟩ := bv_i hf
    refine g_eVV X 63 9 [] kV_X10_196 (c_X10_next h89) dX10_atom1_89 rfl rfl (sgN (by decide)) rfl (by decide) rfl rfl ⟨(Nat.le_of_ble_eq_true rfl), (Nat.le_of_ble_eq_true rfl)⟩ ⟨rfl, rfl⟩ ⟨(Nat.zero_le _), (Nat.zero_le _)⟩ (Nat.le_of_ble_eq_true rfl) ?_
    refine g_goto X (tgt := 161) dX10_atom1_92 (by decide) ?_
    refine g_iload_n X 1 dX10_atom1_161 rfl rfl ?_
    obtain ⟨rfl, rfl⟩ := lf2 hf
    exact hret 162 _ dX10_atom1_162 rfl
set_option maxRecDepth 100000 in
set_option maxHeartbeats 4000000 in
theorem c_X10_atom1 {l : Launch} {G : GG} {b : Nat} {ad : Nat → Nat} {nt : Nat} {z : Nat → Nat} {m0 : Mem} {r9 : Int32} {m9 : Mem} (hf : X10_atom1 m0 = some (r9, m9)) : MtI l yX10_atom1 cX10_atom1 2 (some .int) rmX10_atom1 G b (sg ad nt z) m0 [.ref (ad 63)] (pEI r9 (sg ad nt z) m9) := by
  refine mtI_of (by decide) (Nat.le_of_ble_eq_true rfl) .int rfl (fun Γ hG X hnm hr => ?_)
  have hret : ∀ (pc : Nat) (lv : List (Nat × Value)), decode cX10_atom1 pc = .ok (.ireturn, 1) → narrow .int (.int r9) = .int r9 → Go Γ b (sg ad nt z) 0 0 pc lv [.int r9] m9 := fun pc lv d hn => hr pc lv _ _ _ d ⟨rfl, rfl, rfl⟩ hn
  show Go Γ b (sg ad nt z) 0 0 0 [(0, .ref (ad 63))] [] m0
  refine g_iconst X (v := 0) dX10_atom1_0 (by decide) ?_
  refine g_istore_n X (lv' := [(1, .int (0 : Int32)), (0, .ref (ad 63))]) dX10_atom1_1 rfl (by decide) rfl ?_
  refine g_aload_n X 1 dX10_atom1_2 rfl rfl ?_
  refine g_bipush X (v := 45) dX10_atom1_3 (by decide) ?_
  obtain ⟨r5, m5, h5, hf⟩ := bi_i hf
  refine g_eVI X 63 9 [.int (45 : Int32)] kV_X10_221 (c_X10_isSign h5) dX10_atom1_5 rfl rfl (sgN (by decide)) rfl (by decide) rfl rfl ⟨(Nat.le_of_ble_eq_true rfl), (Nat.le_of_ble_eq_true rfl)⟩ ⟨rfl, rfl⟩ ⟨(Nat.zero_le _), (Nat.zero_le _)⟩ (Nat.le_of_ble_eq_true rfl) ?_
  refine g_if_eq X (tgt := 37) dX10_atom1_8 (by decide) (fun c8 => ?_) (fun c8 => ?_)
  · have hf := it c8 hf
    refine g_aload_n X 1 dX10_atom1_37 rfl rfl ?_
    refine g_bipush X (v := 40) dX10_atom1_38 (by decide) ?_
    obtain ⟨r40, m40, h40, hf⟩ := bi_i hf
    refine g_eVI X 63 9 [.int (40 : Int32)] kV_X10_221 (c_X10_isSign h40) dX10_atom1_40 rfl rfl (sgN (by decide)) rfl (by decide) rfl rfl ⟨(Nat.le_of_ble_eq_true rfl), (Nat.le_of_ble_eq_true rfl)⟩ ⟨rfl, rfl⟩ ⟨(Nat.zero_le _), (Nat.zero_le _)⟩ (Nat.le_of_ble_eq_true rfl) ?_
    refine g_if_eq X (tgt := 95) dX10_atom1_43 (by decide) (fun c43 => ?_) (fun c43 => ?_)
    · have hf := it c43 hf
      refine g_aload_n X 1 dX10_atom1_95 rfl rfl ?_
      refine g_getI X 63 9 26 dX10_atom1_96 (sgN (by decide)) rfl (by decide) rfl iw_X10 (by decide) rfl q_fl_X10_180 ?_
      refine g_if_ne X (tgt := 123) dX10_atom1_99 (by decide) (fun c99 => ?_) (fun c99 => ?_)
      · have hf := ie c99 hf
        refine g_pick [1, 0] (lv' := [(0, .ref (ad 63)), (1, .int (0 : Int32))]) rfl ?_
        exact w_X10_atom1_123 X hret (0 : Int32) m40 hf
      · have hf := it c99 hf
        refine g_aload_n X 1 dX10_atom1_102 rfl rfl ?_
        refine g_getI X 63 9 22 dX10_atom1_103 (sgN (by decide)) rfl (by decide) rfl iw_X10 (by decide) rfl q_fl_X10_165 ?_
        refine g_iconst X (v := 2) dX10_atom1_106 (by decide) ?_
        refine g_icmp_ne X (tgt := 123) dX10_atom1_107 (by decide) (fun c107 => ?_) (fun c107 => ?_)
        · have hf := ie c107 hf
          refine g_pick [1, 0] (lv' := [(0, .ref (ad 63)), (1, .int (0 : Int32))]) rfl ?_
          exact w_X10_atom1_123 X hret (0 : Int32) m40 hf
        · have hf := it c107 hf
          refine g_aload_n X 1 dX10_atom1_110 rfl rfl ?_
          refine g_getJ X 63 9 24 dX10_atom1_111 (sgN (by decide)) rfl (by decide) rfl iw_X10 (by decide) rfl q_fl_X10_176 ?_
          refine g_l2i X dX10_atom1_114 ?_
          refine g_istore_n X (lv' := [(1, .int ((m40.2 63 24).toInt32)), (0, .ref (ad 63))]) dX10_atom1_115 rfl (by decide) rfl ?_
          refine g_aload_n X 1 dX10_atom1_116 rfl rfl ?_
          obtain ⟨m117, h117, hf⟩ := bv_i hf
          refine g_eVV X 63 9 [] kV_X10_196 (c_X10_next h117) dX10_atom1_117 rfl rfl (sgN (by decide)) rfl (by decide) rfl rfl ⟨(Nat.le_of_ble_eq_true rfl), (Nat.le_of_ble_eq_true rfl)⟩ ⟨rfl, rfl⟩ ⟨(Nat.zero_le _), (Nat.zero_le _)⟩ (Nat.le_of_ble_eq_true rfl) ?_
          refine g_goto X (tgt := 161) dX10_atom1_120 (by decide) ?_
          refine g_iload_n X 0 dX10_atom1_161 rfl rfl ?_
          obtain ⟨rfl, rfl⟩ := lf2 hf
          exact hret 162 _ dX10_atom1_162 rfl
    · have hf := ie c43 hf
      refine g_aload_n X 1 dX10_atom1_46 rfl rfl ?_
      obtain ⟨r47, m47, h47, hf⟩ := bi_i hf
      refine g_eVI X 63 9 [] kV_X10_224 (c_X10_opens h47) dX10_atom1_47 rfl rfl (sgN (by decide)) rfl (by decide) rfl rfl ⟨(Nat.le_of_ble_eq_true rfl), (Nat.le_of_ble_eq_true rfl)⟩ ⟨rfl, rfl⟩ ⟨(Nat.zero_le _), (Nat.zero_le _)⟩ (Nat.le_of_ble_eq_true rfl) ?_
      refine g_if_eq X (tgt := 161) dX10_atom1_50 (by decide) (fun c50 => ?_) (fun c50 => ?_)
      · have hf := it c50 hf
        refine g_iload_n X 0 dX10_atom1_161 rfl rfl ?_
        obtain ⟨rfl, rfl⟩ := lf2 hf
        exact hret 162 _ dX10_atom1_162 rfl
      · have hf := ie c50 hf
        refine g_aload_n X 1 dX10_atom1_53 rfl rfl ?_
        obtain ⟨r54, m54, h54, hf⟩ := bi_i hf
        refine g_eVI X 63 9 [] kV_X10_305 (c_X10_either2 h54) dX10_atom1_54 rfl rfl (sgN (by decide)) rfl (by decide) rfl rfl ⟨(Nat.le_of_ble_eq_true rfl), (Nat.le_of_ble_eq_true rfl)⟩ ⟨rfl, rfl⟩ ⟨(Nat.zero_le _), (Nat.zero_le _)⟩ (Nat.le_of_ble_eq_true rfl) ?_
        refine g_istore_n X (lv' := [(1, .int r54), (0, .ref (ad 63))]) dX10_atom1_57 rfl (by decide) rfl ?_
        refine g_aload_n X 1 dX10_atom1_58 rfl rfl ?_
        refine g_bipush X (v := 41) dX10_atom1_59 (by decide) ?_
        obtain ⟨r61, m61, h61, hf⟩ := bi_i hf
        refine g_eVI X 63 9 [.int (41 : Int32)] kV_X10_221 (c_X10_isSign h61) dX10_atom1_61 rfl rfl (sgN (by decide)) rfl (by decide) rfl rfl ⟨(Nat.le_of_ble_eq_true rfl), (Nat.le_of_ble_eq_true rfl)⟩ ⟨rfl, rfl⟩ ⟨(Nat.zero_le _), (Nat.zero_le _)⟩ (Nat.le_of_ble_eq_true rfl) ?_
        refine g_if_ne X (tgt := 71) dX10_atom1_64 (by decide) (fun c64 => ?_) (fun c64 => ?_)
        · have hf := ie c64 hf
          refine g_pick [1, 0] (lv' := [(0, .ref (ad 63)), (1, .int r54)]) rfl ?_
          exact w_X10_atom1_71 X hret r54 m61 hf
        · have hf := it c64 hf
          refine g_aload_n X 1 dX10_atom1_67 rfl rfl ?_
          obtain ⟨m68, h68, hf⟩ := bv_i hf
          refine g_eVV X 63 9 [] kV_X10_193 (c_X10_fail h68) dX10_atom1_68 rfl rfl (sgN (by decide)) rfl (by decide) rfl rfl ⟨(Nat.le_of_ble_eq_true rfl), (Nat.le_of_ble_eq_true rfl)⟩ ⟨rfl, rfl⟩ ⟨(Nat.zero_le _), (Nat.zero_le _)⟩ (Nat.le_of_ble_eq_true rfl) ?_
          refine g_pick [1, 0] (lv' := [(0, .ref (ad 63)), (1, .int r54)]) rfl ?_
          exact w_X10_atom1_71 X hret r54 m68 hf
  · have hf := ie c8 hf
    refine g_aload_n X 1 dX10_atom1_11 rfl rfl ?_
    obtain ⟨r12, m12, h12, hf⟩ := bi_i hf
    refine g_eVI X 63 9 [] kV_X10_224 (c_X10_opens h12) dX10_atom1_12 rfl rfl (sgN (by decide)) rfl (by decide) rfl rfl ⟨(Nat.le_of_ble_eq_true rfl), (Nat.le_of_ble_eq_true rfl)⟩ ⟨rfl, rfl⟩ ⟨(Nat.zero_le _), (Nat.zero_le _)⟩ (Nat.le_of_ble_eq_true rfl) ?_
    refine g_if_eq X (tgt := 161) dX10_atom1_15 (by decide) (fun c15 => ?_) (fun c15 => ?_)
    · have hf := it c15 hf
      refine g_iload_n X 0 dX10_atom1_161 rfl rfl ?_
      obtain ⟨rfl, rfl⟩ := lf2 hf
      exact hret 162 _ dX10_atom1_162 rfl
    · have hf := ie c15 hf
      refine g_aload_n X 1 dX10_atom1_18 rfl rfl ?_
      obtain ⟨r19, m19, h19, hf⟩ := bi_i hf
      refine g_eVI X 63 9 [] kV_X10_290 (c_X10_atom2 h19) dX10_atom1_19 rfl rfl (sgN (by decide)) rfl (by decide) rfl rfl ⟨(Nat.le_of_ble_eq_true rfl), (Nat.le_of_ble_eq_true rfl)⟩ ⟨rfl, rfl⟩ ⟨(Nat.zero_le _), (Nat.zero_le _)⟩ (Nat.le_of_ble_eq_true rfl) ?_
      refine g_ineg X dX10_atom1_22 ?_
      refine g_istore_n X (lv' := [(1, .int (-r19)), (0, .ref (ad 63))]) dX10_atom1_23 rfl (by decide) rfl ?_
      refine g_aload_n X 1 dX10_atom1_24 rfl rfl ?_
      refine g_dup X dX10_atom1_25 rfl ?_
      refine g_getI X 63 9 25 dX10_atom1_26 (sgN (by decide)) rfl (by decide) rfl iw_X10 (by decide) rfl q_fl_X10_190 ?_
      refine g_iconst X (v := 1) dX10_atom1_29 (by decide) ?_
      refine g_isub X dX10_atom1_30 ?_
      refine g_putI X (tyf := tyX10) 63 9 25 dX10_atom1_31 (sgN (by decide)) rfl (by decide) rfl iw_X10 (by decide) rfl q_fl_X10_190 tyX10_ok nmX10 rfl rfl rfl ?_
      refine g_goto X (tgt := 161) dX10_atom1_34 (by decide) ?_
      refine g_iload_n X 0 dX10_atom1_161 rfl rfl ?_
      obtain ⟨rfl, rfl⟩ := lf2 hf
      exact hret 162 _ dX10_atom1_162 rfl

theorem kV_X10_308 : wcV RX10 308 RX10 yX10_atom1 cX10_atom1 2 (some .int) 0 := ⟨q_ml_X10_308, q_im_yX10_atom1, q_se_yX10_atom1, q_in_X10, q_co_yX10_atom1, by decide +kernel⟩

def X10_term1_5 : Nat → Int32 → Mem → Option (Int32 × Mem)
  | 0, _, _ => none
  | n + 1, v1, m0 =>
    bi (X10_isSign (42 : Int32) m0) fun r8 m8 =>
    if r8 = 0 then
      some (v1, m8)
    else
      bv (X10_next m8) fun m15 =>
      bi (X10_atom1 m15) fun r20 m20 =>
      X10_term1_5 n (v1 * r20) m20
def X10_term1 (m0 : Mem) : Option (Int32 × Mem) :=
  bi (X10_atom1 m0) fun r1 m1 =>
  X10_term1_5 10000 r1 m1
abbrev rmX10_term1 : Room := { frames := 29, cells := 0, slots := 0, locals := 640 }
set_option maxRecDepth 100000 in
set_option maxHeartbeats 4000000 in
theorem w_X10_term1_5 {Γ : Ga} {b : Nat} {ad : Nat → Nat} {nt : Nat} {z : Nat → Nat} {r9 : Int32} {m9 : Mem} (X : Cx Γ b cX10_term1 2 RX10 (some .int) rmX10_term1) (hret : ∀ (pc : Nat) (lv : List (Nat × Value)), decode cX10_term1 pc = .ok (.ireturn, 1) → narrow .int (.int r9) = .int r9 → Go Γ b (sg ad nt z) 0 0 pc lv [.int r9] m9) : ∀ (n : Nat) (v1 : Int32) (m0 : Mem), X10_term1_5 n v1 m0 = some (r9, m9) → Go Γ b (sg ad nt z) 0 0 5 [(0, .ref (ad 63)), (1, .int v1)] [] m0 := by
  intro n
  induction n with
  | zero =>
    intro v1 m0 hf
    cases hf
  | succ n ih =>
    intro v1 m0 hf
    refine g_aload_n X 0 dX10_term1_5 rfl rfl ?_
    refine g_bipush X (v := 42) dX10_term1_6 (by decide) ?_
    obtain ⟨r8, m8, h8, hf⟩ := bi_i hf
    refine g_eVI X 63 9 [.int (42 : Int32)] kV_X10_221 (c_X10_isSign h8) dX10_term1_8 rfl rfl (sgN (by decide)) rfl (by decide) rfl rfl ⟨(Nat.le_of_ble_eq_true rfl), (Nat.le_of_ble_eq_true rfl)⟩ ⟨rfl, rfl⟩ ⟨(Nat.zero_le _), (Nat.zero_le _)⟩ (Nat.le_of_ble_eq_true rfl) ?_
    refine g_if_eq X (tgt := 28) dX10_term1_11 (by decide) (fun c11 => ?_) (fun c11 => ?_)
    · have hf := it c11 hf
      refine g_iload_n X 1 dX10_term1_28 rfl rfl ?_
      obtain ⟨rfl, rfl⟩ := lf2 hf
      exact hret 29 _ dX10_term1_29 rfl
    · have hf := ie c11 hf
      refine g_aload_n X 0 dX10_term1_14 rfl rfl ?_
      obtain ⟨m15, h15, hf⟩ := bv_i hf
      refine g_eVV X 63 9 [] kV_X10_196 (c_X10_next h15) dX10_term1_15 rfl rfl (sgN (by decide)) rfl (by decide) rfl rfl ⟨(Nat.le_of_ble_eq_true rfl), (Nat.le_of_ble_eq_true rfl)⟩ ⟨rfl, rfl⟩ ⟨(Nat.zero_le _), (Nat.zero_le _)⟩ (Nat.le_of_ble_eq_true rfl) ?_
      refine g_iload_n X 1 dX10_term1_18 rfl rfl ?_
      refine g_aload_n X 0 dX10_term1_19 rfl rfl ?_
      obtain ⟨r20, m20, h20, hf⟩ := bi_i hf
      refine g_eVI X 63 9 [] kV_X10_308 (c_X10_atom1 h20) dX10_term1_20 rfl rfl (sgN (by decide)) rfl (by decide) rfl rfl ⟨(Nat.le_of_ble_eq_true rfl), (Nat.le_of_ble_eq_true rfl)⟩ ⟨rfl, rfl⟩ ⟨(Nat.zero_le _), (Nat.zero_le _)⟩ (Nat.le_of_ble_eq_true rfl) ?_
      refine g_imul X dX10_term1_23 ?_
      refine g_istore_n X (lv' := [(1, .int (v1 * r20)), (0, .ref (ad 63))]) dX10_term1_24 rfl (by decide) rfl ?_
      refine g_goto X (tgt := 5) dX10_term1_25 (by decide) ?_
      refine g_pick [1, 0] (lv' := [(0, .ref (ad 63)), (1, .int (v1 * r20))]) rfl ?_
      exact ih (v1 * r20) m20 hf
set_option maxRecDepth 100000 in
set_option maxHeartbeats 4000000 in
theorem c_X10_term1 {l : Launch} {G : GG} {b : Nat} {ad : Nat → Nat} {nt : Nat} {z : Nat → Nat} {m0 : Mem} {r9 : Int32} {m9 : Mem} (hf : X10_term1 m0 = some (r9, m9)) : MtI l yX10_term1 cX10_term1 2 (some .int) rmX10_term1 G b (sg ad nt z) m0 [.ref (ad 63)] (pEI r9 (sg ad nt z) m9) := by
  refine mtI_of (by decide) (Nat.le_of_ble_eq_true rfl) .int rfl (fun Γ hG X hnm hr => ?_)
  have hret : ∀ (pc : Nat) (lv : List (Nat × Value)), decode cX10_term1 pc = .ok (.ireturn, 1) → narrow .int (.int r9) = .int r9 → Go Γ b (sg ad nt z) 0 0 pc lv [.int r9] m9 := fun pc lv d hn => hr pc lv _ _ _ d ⟨rfl, rfl, rfl⟩ hn
  show Go Γ b (sg ad nt z) 0 0 0 [(0, .ref (ad 63))] [] m0
  refine g_aload_n X 0 dX10_term1_0 rfl rfl ?_
  obtain ⟨r1, m1, h1, hf⟩ := bi_i hf
  refine g_eVI X 63 9 [] kV_X10_308 (c_X10_atom1 h1) dX10_term1_1 rfl rfl (sgN (by decide)) rfl (by decide) rfl rfl ⟨(Nat.le_of_ble_eq_true rfl), (Nat.le_of_ble_eq_true rfl)⟩ ⟨rfl, rfl⟩ ⟨(Nat.zero_le _), (Nat.zero_le _)⟩ (Nat.le_of_ble_eq_true rfl) ?_
  refine g_istore_n X (lv' := [(1, .int r1), (0, .ref (ad 63))]) dX10_term1_4 rfl (by decide) rfl ?_
  refine g_pick [1, 0] (lv' := [(0, .ref (ad 63)), (1, .int r1)]) rfl ?_
  exact w_X10_term1_5 X hret 10000 r1 m1 hf

theorem kV_X10_311 : wcV RX10 311 RX10 yX10_term1 cX10_term1 2 (some .int) 0 := ⟨q_ml_X10_311, q_im_yX10_term1, q_se_yX10_term1, q_in_X10, q_co_yX10_term1, by decide +kernel⟩

def X10_added1_62 (k5 : Int32 → Mem → Option (Int32 × Mem)) (s0 : Int32) (m0 : Mem) : Option (Int32 × Mem) :=
  k5 s0 m0
def X10_added1_39 (k5 : Int32 → Mem → Option (Int32 × Mem)) (v1 : Int32) (s0 : Int32) (m0 : Mem) : Option (Int32 × Mem) :=
  bv (X10_next m0) fun m41 =>
  bi (X10_term1 m41) fun r45 m45 =>
  if s0 = 0 then
    X10_added1_62 k5 (v1 - r45) m45
  else
    X10_added1_62 k5 (v1 + r45) m45
def X10_added1_23 (k5 : Int32 → Mem → Option (Int32 × Mem)) (v1 : Int32) (m0 : Mem) : Option (Int32 × Mem) :=
  if (lg_cmp (m0.2 63 24) (43 : Int64)) = 0 then
    X10_added1_39 k5 v1 (1 : Int32) m0
  else
    X10_added1_39 k5 v1 (0 : Int32) m0
def X10_added1_5 : Nat → Int32 → Mem → Option (Int32 × Mem)
  | 0, _, _ => none
  | n + 1, v1, m0 =>
    bi (X10_isSign (43 : Int32) m0) fun r8 m8 =>
    if r8 = 0 then
      bi (X10_isSign (45 : Int32) m8) fun r17 m17 =>
      if r17 = 0 then
        some (v1, m17)
      else
        X10_added1_23 (X10_added1_5 n) v1 m17
    else
      X10_added1_23 (X10_added1_5 n) v1 m8
def X10_added1 (m0 : Mem) : Option (Int32 × Mem) :=
  bi (X10_term1 m0) fun r1 m1 =>
  X10_added1_5 10000 r1 m1
abbrev rmX10_added1 : Room := { frames := 30, cells := 0, slots := 0, locals := 661 }
set_option maxRecDepth 100000 in
set_option maxHeartbeats 4000000 in
theorem w_X10_added1_62 {Γ : Ga} {b : Nat} {ad : Nat → Nat} {nt : Nat} {z : Nat → Nat} {k5 : Int32 → Mem → Option (Int32 × Mem)} {r9 : Int32} {m9 : Mem} (X : Cx Γ b cX10_added1 4 RX10 (some .int) rmX10_added1) (hret : ∀ (pc : Nat) (lv : List (Nat × Value)), decode cX10_added1 pc = .ok (.ireturn, 1) → narrow .int (.int r9) = .int r9 → Go Γ b (sg ad nt z) 0 0 pc lv [.int r9] m9) (hk5 : ∀ (v1 : Int32) (m0 : Mem), k5 v1 m0 = some (r9, m9) → Go Γ b (sg ad nt z) 0 0 5 [(0, .ref (ad 63)), (1, .int v1)] [] m0) (s0 : Int32) (m0 : Mem) (hf : X10_added1_62 k5 s0 m0 = some (r9, m9)) : Go Γ b (sg ad nt z) 0 0 62 [(0, .ref (ad 63))] [.int s0] m0 := by
  refine g_istore_n X (lv' := [(1, .int s0), (0, .ref (ad 63))]) dX10_added1_62 rfl (by decide) rfl ?_
  refine g_goto X (tgt := 5) dX10_added1_63 (by decide) ?_
  refine g_pick [1, 0] (lv' := [(0, .ref (ad 63)), (1, .int s0)]) rfl ?_
  exact hk5 s0 m0 hf
set_option maxRecDepth 100000 in
set_option maxHeartbeats 4000000 in
theorem w_X10_added1_39 {Γ : Ga} {b : Nat} {ad : Nat → Nat} {nt : Nat} {z : Nat → Nat} {k5 : Int32 → Mem → Option (Int32 × Mem)} {r9 : Int32} {m9 : Mem} (X : Cx Γ b cX10_added1 4 RX10 (some .int) rmX10_added1) (hret : ∀ (pc : Nat) (lv : List (Nat × Value)), decode cX10_added1 pc = .ok (.ireturn, 1) → narrow .int (.int r9) = .int r9 → Go Γ b (sg ad nt z) 0 0 pc lv [.int r9] m9) (hk5 : ∀ (v1 : Int32) (m0 : Mem), k5 v1 m0 = some (r9, m9) → Go Γ b (sg ad nt z) 0 0 5 [(0, .ref (ad 63)), (1, .int v1)] [] m0) (v1 : Int32) (s0 : Int32) (m0 : Mem) (hf : X10_added1_39 k5 v1 s0 m0 = some (r9, m9)) : Go Γ b (sg ad nt z) 0 0 39 [(0, .ref (ad 63)), (1, .int v1)] [.int s0] m0 := by
  refine g_istore_n X (lv' := [(2, .int s0), (0, .ref (ad 63)), (1, .int v1)]) dX10_added1_39 rfl (by decide) rfl ?_
  refine g_aload_n X 1 dX10_added1_40 rfl rfl ?_
  obtain ⟨m41, h41, hf⟩ := bv_i hf
  refine g_eVV X 63 9 [] kV_X10_196 (c_X10_next h41) dX10_added1_41 rfl rfl (sgN (by decide)) rfl (by decide) rfl rfl ⟨(Nat.le_of_ble_eq_true rfl), (Nat.le_of_ble_eq_true rfl)⟩ ⟨rfl, rfl⟩ ⟨(Nat.zero_le _), (Nat.zero_le _)⟩ (Nat.le_of_ble_eq_true rfl) ?_
  refine g_aload_n X 1 dX10_added1_44 rfl rfl ?_
  obtain ⟨r45, m45, h45, hf⟩ := bi_i hf
  refine g_eVI X 63 9 [] kV_X10_311 (c_X10_term1 h45) dX10_added1_45 rfl rfl (sgN (by decide)) rfl (by decide) rfl rfl ⟨(Nat.le_of_ble_eq_true rfl), (Nat.le_of_ble_eq_true rfl)⟩ ⟨rfl, rfl⟩ ⟨(Nat.zero_le _), (Nat.zero_le _)⟩ (Nat.le_of_ble_eq_true rfl) ?_
  refine g_istore_n X (lv' := [(3, .int r45), (2, .int s0), (0, .ref (ad 63)), (1, .int v1)]) dX10_added1_48 rfl (by decide) rfl ?_
  refine g_iload_n X 1 dX10_added1_49 rfl rfl ?_
  refine g_if_eq X (tgt := 59) dX10_added1_50 (by decide) (fun c50 => ?_) (fun c50 => ?_)
  · have hf := it c50 hf
    refine g_iload_n X 3 dX10_added1_59 rfl rfl ?_
    refine g_iload_n X 0 dX10_added1_60 rfl rfl ?_
    refine g_isub X dX10_added1_61 ?_
    refine g_pick [2] (lv' := [(0, .ref (ad 63))]) rfl ?_
    exact w_X10_added1_62 X hret hk5 (v1 - r45) m45 hf
  · have hf := ie c50 hf
    refine g_iload_n X 3 dX10_added1_53 rfl rfl ?_
    refine g_iload_n X 0 dX10_added1_54 rfl rfl ?_
    refine g_iadd X dX10_added1_55 ?_
    refine g_goto X (tgt := 62) dX10_added1_56 (by decide) ?_
    refine g_pick [2] (lv' := [(0, .ref (ad 63))]) rfl ?_
    exact w_X10_added1_62 X hret hk5 (v1 + r45) m45 hf
set_option maxRecDepth 100000 in
set_option maxHeartbeats 4000000 in
theorem w_X10_added1_23 {Γ : Ga} {b : Nat} {ad : Nat → Nat} {nt : Nat} {z : Nat → Nat} {k5 : Int32 → Mem → Option (Int32 × Mem)} {r9 : Int32} {m9 : Mem} (X : Cx Γ b cX10_added1 4 RX10 (some .int) rmX10_added1) (hret : ∀ (pc : Nat) (lv : List (Nat × Value)), decode cX10_added1 pc = .ok (.ireturn, 1) → narrow .int (.int r9) = .int r9 → Go Γ b (sg ad nt z) 0 0 pc lv [.int r9] m9) (hk5 : ∀ (v1 : Int32) (m0 : Mem), k5 v1 m0 = some (r9, m9) → Go Γ b (sg ad nt z) 0 0 5 [(0, .ref (ad 63)), (1, .int v1)] [] m0) (v1 : Int32) (m0 : Mem) (hf : X10_added1_23 k5 v1 m0 = some (r9, m9)) : Go Γ b (sg ad nt z) 0 0 23 [(0, .ref (ad 63)), (1, .int v1)] [] m0 := by
  refine g_aload_n X 0 dX10_added1_23 rfl rfl ?_
  refine g_getJ X 63 9 24 dX10_added1_24 (sgN (by decide)) rfl (by decide) rfl iw_X10 (by decide) rfl q_fl_X10_176 ?_
  refine g_ldc2 X dX10_added1_27 q_cl_X10_238 ?_
  refine g_lcmp X dX10_added1_30 ?_
  refine g_if_ne X (tgt := 38) dX10_added1_31 (by decide) (fun c31 => ?_) (fun c31 => ?_)
  · have hf := ie c31 hf
    refine g_iconst X (v := 0) dX10_added1_38 (by decide) ?_
    exact w_X10_added1_39 X hret hk5 v1 (0 : Int32) m0 hf
  · have hf := it c31 hf
    refine g_iconst X (v := 1) dX10_added1_34 (by decide) ?_
    refine g_goto X (tgt := 39) dX10_added1_35 (by decide) ?_
    exact w_X10_added1_39 X hret hk5 v1 (1 : Int32) m0 hf
set_option maxRecDepth 100000 in
set_option maxHeartbeats 4000000 in
theorem w_X10_added1_5 {Γ : Ga} {b : Nat} {ad : Nat → Nat} {nt : Nat} {z : Nat → Nat} {r9 : Int32} {m9 : Mem} (X : Cx Γ b cX10_added1 4 RX10 (some .int) rmX10_added1) (hret : ∀ (pc : Nat) (lv : List (Nat × Value)), decode cX10_added1 pc = .ok (.ireturn, 1) → narrow .int (.int r9) = .int r9 → Go Γ b (sg ad nt z) 0 0 pc lv [.int r9] m9) : ∀ (n : Nat) (v1 : Int32) (m0 : Mem), X10_added1_5 n v1 m0 = some (r9, m9) → Go Γ b (sg ad nt z) 0 0 5 [(0, .ref (ad 63)), (1, .int v1)] [] m0 := by
  intro n
  induction n with
  | zero =>
    intro v1 m0 hf
    cases hf
  | succ n ih =>
    intro v1 m0 hf
    refine g_aload_n X 0 dX10_added1_5 rfl rfl ?_
    refine g_bipush X (v := 43) dX10_added1_6 (by decide) ?_
    obtain ⟨r8, m8, h8, hf⟩ := bi_i hf
    refine g_eVI X 63 9 [.int (43 : Int32)] kV_X10_221 (c_X10_isSign h8) dX10_added1_8 rfl rfl (sgN (by decide)) rfl (by decide) rfl rfl ⟨(Nat.le_of_ble_eq_true rfl), (Nat.le_of_ble_eq_true rfl)⟩ ⟨rfl, rfl⟩ ⟨(Nat.zero_le _), (Nat.zero_le _)⟩ (Nat.le_of_ble_eq_true rfl) ?_
    refine g_if_ne X (tgt := 23) dX10_added1_11 (by decide) (fun c11 => ?_) (fun c11 => ?_)
    · have hf := ie c11 hf
      exact w_X10_added1_23 X hret ih v1 m8 hf
    · have hf := it c11 hf
      refine g_aload_n X 0 dX10_added1_14 rfl rfl ?_
      refine g_bipush X (v := 45) dX10_added1_15 (by decide) ?_
      obtain ⟨r17, m17, h17, hf⟩ := bi_i hf
      refine g_eVI X 63 9 [.int (45 : Int32)] kV_X10_221 (c_X10_isSign h17) dX10_added1_17 rfl rfl (sgN (by decide)) rfl (by decide) rfl rfl ⟨(Nat.le_of_ble_eq_true rfl), (Nat.le_of_ble_eq_true rfl)⟩ ⟨rfl, rfl⟩ ⟨(Nat.zero_le _), (Nat.zero_le _)⟩ (Nat.le_of_ble_eq_true rfl) ?_
      refine g_if_eq X (tgt := 66) dX10_added1_20 (by decide) (fun c20 => ?_) (fun c20 => ?_)
      · have hf := it c20 hf
        refine g_iload_n X 1 dX10_added1_66 rfl rfl ?_
        obtain ⟨rfl, rfl⟩ := lf2 hf
        exact hret 67 _ dX10_added1_67 rfl
      · have hf := ie c20 hf
        exact w_X10_added1_23 X hret ih v1 m17 hf
set_option maxRecDepth 100000 in
set_option maxHeartbeats 4000000 in
theorem c_X10_added1 {l : Launch} {G : GG} {b : Nat} {ad : Nat → Nat} {nt : Nat} {z : Nat → Nat} {m0 : Mem} {r9 : Int32} {m9 : Mem} (hf : X10_added1 m0 = some (r9, m9)) : MtI l yX10_added1 cX10_added1 4 (some .int) rmX10_added1 G b (sg ad nt z) m0 [.ref (ad 63)] (pEI r9 (sg ad nt z) m9) := by
  refine mtI_of (by decide) (Nat.le_of_ble_eq_true rfl) .int rfl (fun Γ hG X hnm hr => ?_)
  have hret : ∀ (pc : Nat) (lv : List (Nat × Value)), decode cX10_added1 pc = .ok (.ireturn, 1) → narrow .int (.int r9) = .int r9 → Go Γ b (sg ad nt z) 0 0 pc lv [.int r9] m9 := fun pc lv d hn => hr pc lv _ _ _ d ⟨rfl, rfl, rfl⟩ hn
  show Go Γ b (sg ad nt z) 0 0 0 [(0, .ref (ad 63))] [] m0
  refine g_aload_n X 0 dX10_added1_0 rfl rfl ?_
  obtain ⟨r1, m1, h1, hf⟩ := bi_i hf
  refine g_eVI X 63 9 [] kV_X10_311 (c_X10_term1 h1) dX10_added1_1 rfl rfl (sgN (by decide)) rfl (by decide) rfl rfl ⟨(Nat.le_of_ble_eq_true rfl), (Nat.le_of_ble_eq_true rfl)⟩ ⟨rfl, rfl⟩ ⟨(Nat.zero_le _), (Nat.zero_le _)⟩ (Nat.le_of_ble_eq_true rfl) ?_
  refine g_istore_n X (lv' := [(1, .int r1), (0, .ref (ad 63))]) dX10_added1_4 rfl (by decide) rfl ?_
  refine g_pick [1, 0] (lv' := [(0, .ref (ad 63)), (1, .int r1)]) rfl ?_
  exact w_X10_added1_5 X hret 10000 r1 m1 hf

theorem kV_X10_314 : wcV RX10 314 RX10 yX10_added1 cX10_added1 4 (some .int) 0 := ⟨q_ml_X10_314, q_im_yX10_added1, q_se_yX10_added1, q_in_X10, q_co_yX10_added1, by decide +kernel⟩

def X10_not1_93 (v1 : Int32) (s0 : Int32) (m0 : Mem) : Option (Int32 × Mem) :=
  bv (X10_next m0) fun m95 =>
  bi (X10_added1 m95) fun r99 m99 =>
  if s0 = 0 then
    if v1 = r99 then
      some ((1 : Int32), m99)
    else
      some ((0 : Int32), m99)
  else
    if r99 ≤ v1 then
      some ((0 : Int32), m99)
    else
      some ((1 : Int32), m99)
def X10_not1_77 (v1 : Int32) (m0 : Mem) : Option (Int32 × Mem) :=
  if (lg_cmp (m0.2 63 24) (60 : Int64)) = 0 then
    X10_not1_93 v1 (1 : Int32) m0
  else
    X10_not1_93 v1 (0 : Int32) m0
def X10_not1 (m0 : Mem) : Option (Int32 × Mem) :=
  bi (X10_isWord (110 : Int32) (111 : Int32) (116 : Int32) (0 : Int32) (0 : Int32) (0 : Int32) (0 : Int32) (0 : Int32) m0) fun r12 m12 =>
  if r12 = 0 then
    bi (X10_added1 m12) fun r53 m53 =>
    bi (X10_isSign (60 : Int32) m53) fun r60 m60 =>
    if r60 = 0 then
      bi (X10_isSign (61 : Int32) m60) fun r69 m69 =>
      if r69 = 0 then
        some (r53, m69)
      else
        X10_not1_77 r53 m69
    else
      X10_not1_77 r53 m60
  else
    bi (X10_opens m12) fun r19 m19 =>
    if r19 = 0 then
      some ((0 : Int32), m19)
    else
      bi (X10_not2 m19) fun r28 m28 =>
      if r28 = 0 then
        some ((1 : Int32), pI m28 63 25 ((m28.1 63 25) - (1 : Int32)))
      else
        some ((0 : Int32), pI m28 63 25 ((m28.1 63 25) - (1 : Int32)))
abbrev rmX10_not1 : Room := { frames := 31, cells := 0, slots := 0, locals := 684 }
set_option maxRecDepth 100000 in
set_option maxHeartbeats 4000000 in
theorem w_X10_not1_93 {Γ : Ga} {b : Nat} {ad : Nat → Nat} {nt : Nat} {z : Nat → Nat} {r9 : Int32} {m9 : Mem} (X : Cx Γ b cX10_not1 4 RX10 (some .int) rmX10_not1) (hret : ∀ (pc : Nat) (lv : List (Nat × Value)), decode cX10_not1 pc = .ok (.ireturn, 1) → narrow .int (.int r9) = .int r9 → Go Γ b (sg ad nt z) 0 0 pc lv [.int r9] m9) (v1 : Int32) (s0 : Int32) (m0 : Mem) (hf : X10_not1_93 v1 s0 m0 = some (r9, m9)) : Go Γ b (sg ad nt z) 0 0 93 [(0, .ref (ad 63)), (1, .int v1)] [.int s0] m0 := by
  refine g_istore_n X (lv' := [(2, .int s0), (0, .ref (ad 63)), (1, .int v1)]) dX10_not1_93 rfl (by decide) rfl ?_
  refine g_aload_n X 1 dX10_not1_94 rfl rfl ?_
  obtain ⟨m95, h95, hf⟩ := bv_i hf
  refine g_eVV X 63 9 [] kV_X10_196 (c_X10_next h95) dX10_not1_95 rfl rfl (sgN (by decide)) rfl (by decide) rfl rfl ⟨(Nat.le_of_ble_eq_true rfl), (Nat.le_of_ble_eq_true rfl)⟩ ⟨rfl, rfl⟩ ⟨(Nat.zero_le _), (Nat.zero_le _)⟩ (Nat.le_of_ble_eq_true rfl) ?_
  refine g_aload_n X 1 dX10_not1_98 rfl rfl ?_
  obtain ⟨r99, m99, h99, hf⟩ := bi_i hf
  refine g_eVI X 63 9 [] kV_X10_314 (c_X10_added1 h99) dX10_not1_99 rfl rfl (sgN (by decide)) rfl (by decide) rfl rfl ⟨(Nat.le_of_ble_eq_true rfl), (Nat.le_of_ble_eq_true rfl)⟩ ⟨rfl, rfl⟩ ⟨(Nat.zero_le _), (Nat.zero_le _)⟩ (Nat.le_of_ble_eq_true rfl) ?_
  refine g_istore_n X (lv' := [(3, .int r99), (2, .int s0), (0, .ref (ad 63)), (1, .int v1)]) dX10_not1_102 rfl (by decide) rfl ?_
  refine g_iload_n X 1 dX10_not1_103 rfl rfl ?_
  refine g_if_eq X (tgt := 115) dX10_not1_104 (by decide) (fun c104 => ?_) (fun c104 => ?_)
  · have hf := it c104 hf
    refine g_iload_n X 3 dX10_not1_115 rfl rfl ?_
    refine g_iload_n X 0 dX10_not1_116 rfl rfl ?_
    refine g_icmp_ne X (tgt := 124) dX10_not1_117 (by decide) (fun c117 => ?_) (fun c117 => ?_)
    · have hf := ie c117 hf
      refine g_iconst X (v := 0) dX10_not1_124 (by decide) ?_
      obtain ⟨rfl, rfl⟩ := lf2 hf
      exact hret 125 _ dX10_not1_125 rfl
    · have hf := it c117 hf
      refine g_iconst X (v := 1) dX10_not1_120 (by decide) ?_
      refine g_goto X (tgt := 125) dX10_not1_121 (by decide) ?_
      obtain ⟨rfl, rfl⟩ := lf2 hf
      exact hret 125 _ dX10_not1_125 rfl
  · have hf := ie c104 hf
    refine g_iload_n X 3 dX10_not1_107 rfl rfl ?_
    refine g_iload_n X 0 dX10_not1_108 rfl rfl ?_
    refine g_icmp_ge X (tgt := 124) dX10_not1_109 (by decide) (fun c109 => ?_) (fun c109 => ?_)
    · have hf := it c109 hf
      refine g_iconst X (v := 0) dX10_not1_124 (by decide) ?_
      obtain ⟨rfl, rfl⟩ := lf2 hf
      exact hret 125 _ dX10_not1_125 rfl
    · have hf := ie c109 hf
      refine g_goto X (tgt := 120) dX10_not1_112 (by decide) ?_
      refine g_iconst X (v := 1) dX10_not1_120 (by decide) ?_
      refine g_goto X (tgt := 125) dX10_not1_121 (by decide) ?_
      obtain ⟨rfl, rfl⟩ := lf2 hf
      exact hret 125 _ dX10_not1_125 rfl
set_option maxRecDepth 100000 in
set_option maxHeartbeats 4000000 in
theorem w_X10_not1_77 {Γ : Ga} {b : Nat} {ad : Nat → Nat} {nt : Nat} {z : Nat → Nat} {r9 : Int32} {m9 : Mem} (X : Cx Γ b cX10_not1 4 RX10 (some .int) rmX10_not1) (hret : ∀ (pc : Nat) (lv : List (Nat × Value)), decode cX10_not1 pc = .ok (.ireturn, 1) → narrow .int (.int r9) = .int r9 → Go Γ b (sg ad nt z) 0 0 pc lv [.int r9] m9) (v1 : Int32) (m0 : Mem) (hf : X10_not1_77 v1 m0 = some (r9, m9)) : Go Γ b (sg ad nt z) 0 0 77 [(0, .ref (ad 63)), (1, .int v1)] [] m0 := by
  refine g_aload_n X 0 dX10_not1_77 rfl rfl ?_
  refine g_getJ X 63 9 24 dX10_not1_78 (sgN (by decide)) rfl (by decide) rfl iw_X10 (by decide) rfl q_fl_X10_176 ?_
  refine g_ldc2 X dX10_not1_81 q_cl_X10_243 ?_
  refine g_lcmp X dX10_not1_84 ?_
  refine g_if_ne X (tgt := 92) dX10_not1_85 (by decide) (fun c85 => ?_) (fun c85 => ?_)
  · have hf := ie c85 hf
    refine g_iconst X (v := 0) dX10_not1_92 (by decide) ?_
    exact w_X10_not1_93 X hret v1 (0 : Int32) m0 hf
  · have hf := it c85 hf
    refine g_iconst X (v := 1) dX10_not1_88 (by decide) ?_
    refine g_goto X (tgt := 93) dX10_not1_89 (by decide) ?_
    exact w_X10_not1_93 X hret v1 (1 : Int32) m0 hf
set_option maxRecDepth 100000 in
set_option maxHeartbeats 4000000 in
theorem c_X10_not1 {l : Launch} {G : GG} {b : Nat} {ad : Nat → Nat} {nt : Nat} {z : Nat → Nat} {m0 : Mem} {r9 : Int32} {m9 : Mem} (hf : X10_not1 m0 = some (r9, m9)) : MtI l yX10_not1 cX10_not1 4 (some .int) rmX10_not1 G b (sg ad nt z) m0 [.ref (ad 63)] (pEI r9 (sg ad nt z) m9) := by
  refine mtI_of (by decide) (Nat.le_of_ble_eq_true rfl) .int rfl (fun Γ hG X hnm hr => ?_)
  have hret : ∀ (pc : Nat) (lv : List (Nat × Value)), decode cX10_not1 pc = .ok (.ireturn, 1) → narrow .int (.int r9) = .int r9 → Go Γ b (sg ad nt z) 0 0 pc lv [.int r9] m9 := fun pc lv d hn => hr pc lv _ _ _ d ⟨rfl, rfl, rfl⟩ hn
  show Go Γ b (sg ad nt z) 0 0 0 [(0, .ref (ad 63))] [] m0
  refine g_aload_n X 0 dX10_not1_0 rfl rfl ?_
  refine g_bipush X (v := 110) dX10_not1_1 (by decide) ?_
  refine g_bipush X (v := 111) dX10_not1_3 (by decide) ?_
  refine g_bipush X (v := 116) dX10_not1_5 (by decide) ?_
  refine g_iconst X (v := 0) dX10_not1_7 (by decide) ?_
  refine g_iconst X (v := 0) dX10_not1_8 (by decide) ?_
  refine g_iconst X (v := 0) dX10_not1_9 (by decide) ?_
  refine g_iconst X (v := 0) dX10_not1_10 (by decide) ?_
  refine g_iconst X (v := 0) dX10_not1_11 (by decide) ?_
  obtain ⟨r12, m12, h12, hf⟩ := bi_i hf
  refine g_eVI X 63 9 [.int (110 : Int32), .int (111 : Int32), .int (116 : Int32), .int (0 : Int32), .int (0 : Int32), .int (0 : Int32), .int (0 : Int32), .int (0 : Int32)] kV_X10_199 (c_X10_isWord h12) dX10_not1_12 rfl rfl (sgN (by decide)) rfl (by decide) rfl rfl ⟨(Nat.le_of_ble_eq_true rfl), (Nat.le_of_ble_eq_true rfl)⟩ ⟨rfl, rfl⟩ ⟨(Nat.zero_le _), (Nat.zero_le _)⟩ (Nat.le_of_ble_eq_true rfl) ?_
  refine g_if_eq X (tgt := 52) dX10_not1_15 (by decide) (fun c15 => ?_) (fun c15 => ?_)
  · have hf := it c15 hf
    refine g_aload_n X 0 dX10_not1_52 rfl rfl ?_
    obtain ⟨r53, m53, h53, hf⟩ := bi_i hf
    refine g_eVI X 63 9 [] kV_X10_314 (c_X10_added1 h53) dX10_not1_53 rfl rfl (sgN (by decide)) rfl (by decide) rfl rfl ⟨(Nat.le_of_ble_eq_true rfl), (Nat.le_of_ble_eq_true rfl)⟩ ⟨rfl, rfl⟩ ⟨(Nat.zero_le _), (Nat.zero_le _)⟩ (Nat.le_of_ble_eq_true rfl) ?_
    refine g_istore_n X (lv' := [(1, .int r53), (0, .ref (ad 63))]) dX10_not1_56 rfl (by decide) rfl ?_
    refine g_aload_n X 1 dX10_not1_57 rfl rfl ?_
    refine g_bipush X (v := 60) dX10_not1_58 (by decide) ?_
    obtain ⟨r60, m60, h60, hf⟩ := bi_i hf
    refine g_eVI X 63 9 [.int (60 : Int32)] kV_X10_221 (c_X10_isSign h60) dX10_not1_60 rfl rfl (sgN (by decide)) rfl (by decide) rfl rfl ⟨(Nat.le_of_ble_eq_true rfl), (Nat.le_of_ble_eq_true rfl)⟩ ⟨rfl, rfl⟩ ⟨(Nat.zero_le _), (Nat.zero_le _)⟩ (Nat.le_of_ble_eq_true rfl) ?_
    refine g_if_ne X (tgt := 77) dX10_not1_63 (by decide) (fun c63 => ?_) (fun c63 => ?_)
    · have hf := ie c63 hf
      refine g_pick [1, 0] (lv' := [(0, .ref (ad 63)), (1, .int r53)]) rfl ?_
      exact w_X10_not1_77 X hret r53 m60 hf
    · have hf := it c63 hf
      refine g_aload_n X 1 dX10_not1_66 rfl rfl ?_
      refine g_bipush X (v := 61) dX10_not1_67 (by decide) ?_
      obtain ⟨r69, m69, h69, hf⟩ := bi_i hf
      refine g_eVI X 63 9 [.int (61 : Int32)] kV_X10_221 (c_X10_isSign h69) dX10_not1_69 rfl rfl (sgN (by decide)) rfl (by decide) rfl rfl ⟨(Nat.le_of_ble_eq_true rfl), (Nat.le_of_ble_eq_true rfl)⟩ ⟨rfl, rfl⟩ ⟨(Nat.zero_le _), (Nat.zero_le _)⟩ (Nat.le_of_ble_eq_true rfl) ?_
      refine g_if_ne X (tgt := 77) dX10_not1_72 (by decide) (fun c72 => ?_) (fun c72 => ?_)
      · have hf := ie c72 hf
        refine g_pick [1, 0] (lv' := [(0, .ref (ad 63)), (1, .int r53)]) rfl ?_
        exact w_X10_not1_77 X hret r53 m69 hf
      · have hf := it c72 hf
        refine g_iload_n X 0 dX10_not1_75 rfl rfl ?_
        obtain ⟨rfl, rfl⟩ := lf2 hf
        exact hret 76 _ dX10_not1_76 rfl
  · have hf := ie c15 hf
    refine g_aload_n X 0 dX10_not1_18 rfl rfl ?_
    obtain ⟨r19, m19, h19, hf⟩ := bi_i hf
    refine g_eVI X 63 9 [] kV_X10_224 (c_X10_opens h19) dX10_not1_19 rfl rfl (sgN (by decide)) rfl (by decide) rfl rfl ⟨(Nat.le_of_ble_eq_true rfl), (Nat.le_of_ble_eq_true rfl)⟩ ⟨rfl, rfl⟩ ⟨(Nat.zero_le _), (Nat.zero_le _)⟩ (Nat.le_of_ble_eq_true rfl) ?_
    refine g_if_ne X (tgt := 27) dX10_not1_22 (by decide) (fun c22 => ?_) (fun c22 => ?_)
    · have hf := ie c22 hf
      refine g_aload_n X 0 dX10_not1_27 rfl rfl ?_
      obtain ⟨r28, m28, h28, hf⟩ := bi_i hf
      refine g_eVI X 63 9 [] kV_X10_299 (c_X10_not2 h28) dX10_not1_28 rfl rfl (sgN (by decide)) rfl (by decide) rfl rfl ⟨(Nat.le_of_ble_eq_true rfl), (Nat.le_of_ble_eq_true rfl)⟩ ⟨rfl, rfl⟩ ⟨(Nat.zero_le _), (Nat.zero_le _)⟩ (Nat.le_of_ble_eq_true rfl) ?_
      refine g_istore_n X (lv' := [(1, .int r28), (0, .ref (ad 63))]) dX10_not1_31 rfl (by decide) rfl ?_
      refine g_aload_n X 1 dX10_not1_32 rfl rfl ?_
      refine g_dup X dX10_not1_33 rfl ?_
      refine g_getI X 63 9 25 dX10_not1_34 (sgN (by decide)) rfl (by decide) rfl iw_X10 (by decide) rfl q_fl_X10_190 ?_
      refine g_iconst X (v := 1) dX10_not1_37 (by decide) ?_
      refine g_isub X dX10_not1_38 ?_
      refine g_putI X (tyf := tyX10) 63 9 25 dX10_not1_39 (sgN (by decide)) rfl (by decide) rfl iw_X10 (by decide) rfl q_fl_X10_190 tyX10_ok nmX10 rfl rfl rfl ?_
      refine g_iload_n X 0 dX10_not1_42 rfl rfl ?_
      refine g_if_ne X (tgt := 50) dX10_not1_43 (by decide) (fun c43 => ?_) (fun c43 => ?_)
      · have hf := ie c43 hf
        refine g_iconst X (v := 0) dX10_not1_50 (by decide) ?_
        obtain ⟨rfl, rfl⟩ := lf2 hf
        exact hret 51 _ dX10_not1_51 rfl
      · have hf := it c43 hf
        refine g_iconst X (v := 1) dX10_not1_46 (by decide) ?_
        refine g_goto X (tgt := 51) dX10_not1_47 (by decide) ?_
        obtain ⟨rfl, rfl⟩ := lf2 hf
        exact hret 51 _ dX10_not1_51 rfl
    · have hf := it c22 hf
      refine g_iconst X (v := 0) dX10_not1_25 (by decide) ?_
      obtain ⟨rfl, rfl⟩ := lf2 hf
      exact hret 26 _ dX10_not1_26 rfl

theorem kV_X10_317 : wcV RX10 317 RX10 yX10_not1 cX10_not1 4 (some .int) 0 := ⟨q_ml_X10_317, q_im_yX10_not1, q_se_yX10_not1, q_in_X10, q_co_yX10_not1, by decide +kernel⟩

def X10_both1_45 (k5 : Int32 → Mem → Option (Int32 × Mem)) (s0 : Int32) (m0 : Mem) : Option (Int32 × Mem) :=
  k5 s0 m0
def X10_both1_44 (k5 : Int32 → Mem → Option (Int32 × Mem)) (m0 : Mem) : Option (Int32 × Mem) :=
  X10_both1_45 k5 (0 : Int32) m0
def X10_both1_5 : Nat → Int32 → Mem → Option (Int32 × Mem)
  | 0, _, _ => none
  | n + 1, v1, m0 =>
    bi (X10_isWord (97 : Int32) (110 : Int32) (100 : Int32) (0 : Int32) (0 : Int32) (0 : Int32) (0 : Int32) (0 : Int32) m0) fun r17 m17 =>
    if r17 = 0 then
      some (v1, m17)
    else
      bv (X10_next m17) fun m24 =>
      bi (X10_not1 m24) fun r28 m28 =>
      if v1 = 0 then
        X10_both1_44 (X10_both1_5 n) m28
      else
        if r28 = 0 then
          X10_both1_44 (X10_both1_5 n) m28
        else
          X10_both1_45 (X10_both1_5 n) (1 : Int32) m28
def X10_both1 (m0 : Mem) : Option (Int32 × Mem) :=
  bi (X10_not1 m0) fun r1 m1 =>
  X10_both1_5 10000 r1 m1
abbrev rmX10_both1 : Room := { frames := 32, cells := 0, slots := 0, locals := 707 }
set_option maxRecDepth 100000 in
set_option maxHeartbeats 4000000 in
theorem w_X10_both1_45 {Γ : Ga} {b : Nat} {ad : Nat → Nat} {nt : Nat} {z : Nat → Nat} {k5 : Int32 → Mem → Option (Int32 × Mem)} {r9 : Int32} {m9 : Mem} (X : Cx Γ b cX10_both1 3 RX10 (some .int) rmX10_both1) (hret : ∀ (pc : Nat) (lv : List (Nat × Value)), decode cX10_both1 pc = .ok (.ireturn, 1) → narrow .int (.int r9) = .int r9 → Go Γ b (sg ad nt z) 0 0 pc lv [.int r9] m9) (hk5 : ∀ (v1 : Int32) (m0 : Mem), k5 v1 m0 = some (r9, m9) → Go Γ b (sg ad nt z) 0 0 5 [(0, .ref (ad 63)), (1, .int v1)] [] m0) (s0 : Int32) (m0 : Mem) (hf : X10_both1_45 k5 s0 m0 = some (r9, m9)) : Go Γ b (sg ad nt z) 0 0 45 [(0, .ref (ad 63))] [.int s0] m0 := by
  refine g_istore_n X (lv' := [(1, .int s0), (0, .ref (ad 63))]) dX10_both1_45 rfl (by decide) rfl ?_
  refine g_goto X (tgt := 5) dX10_both1_46 (by decide) ?_
  refine g_pick [1, 0] (lv' := [(0, .ref (ad 63)), (1, .int s0)]) rfl ?_
  exact hk5 s0 m0 hf
set_option maxRecDepth 100000 in
set_option maxHeartbeats 4000000 in
theorem w_X10_both1_44 {Γ : Ga} {b : Nat} {ad : Nat → Nat} {nt : Nat} {z : Nat → Nat} {k5 : Int32 → Mem → Option (Int32 × Mem)} {r9 : Int32} {m9 : Mem} (X : Cx Γ b cX10_both1 3 RX10 (some .int) rmX10_both1) (hret : ∀ (pc : Nat) (lv : List (Nat × Value)), decode cX10_both1 pc = .ok (.ireturn, 1) → narrow .int (.int r9) = .int r9 → Go Γ b (sg ad nt z) 0 0 pc lv [.int r9] m9) (hk5 : ∀ (v1 : Int32) (m0 : Mem), k5 v1 m0 = some (r9, m9) → Go Γ b (sg ad nt z) 0 0 5 [(0, .ref (ad 63)), (1, .int v1)] [] m0) (m0 : Mem) (hf : X10_both1_44 k5 m0 = some (r9, m9)) : Go Γ b (sg ad nt z) 0 0 44 [(0, .ref (ad 63))] [] m0 := by
  refine g_iconst X (v := 0) dX10_both1_44 (by decide) ?_
  exact w_X10_both1_45 X hret hk5 (0 : Int32) m0 hf
set_option maxRecDepth 100000 in
set_option maxHeartbeats 4000000 in
theorem w_X10_both1_5 {Γ : Ga} {b : Nat} {ad : Nat → Nat} {nt : Nat} {z : Nat → Nat} {r9 : Int32} {m9 : Mem} (X : Cx Γ b cX10_both1 3 RX10 (some .int) rmX10_both1) (hret : ∀ (pc : Nat) (lv : List (Nat × Value)), decode cX10_both1 pc = .ok (.ireturn, 1) → narrow .int (.int r9) = .int r9 → Go Γ b (sg ad nt z) 0 0 pc lv [.int r9] m9) : ∀ (n : Nat) (v1 : Int32) (m0 : Mem), X10_both1_5 n v1 m0 = some (r9, m9) → Go Γ b (sg ad nt z) 0 0 5 [(0, .ref (ad 63)), (1, .int v1)] [] m0 := by
  intro n
  induction n with
  | zero =>
    intro v1 m0 hf
    cases hf
  | succ n ih =>
    intro v1 m0 hf
    refine g_aload_n X 0 dX10_both1_5 rfl rfl ?_
    refine g_bipush X (v := 97) dX10_both1_6 (by decide) ?_
    refine g_bipush X (v := 110) dX10_both1_8 (by decide) ?_
    refine g_bipush X (v := 100) dX10_both1_10 (by decide) ?_
    refine g_iconst X (v := 0) dX10_both1_12 (by decide) ?_
    refine g_iconst X (v := 0) dX10_both1_13 (by decide) ?_
    refine g_iconst X (v := 0) dX10_both1_14 (by decide) ?_
    refine g_iconst X (v := 0) dX10_both1_15 (by decide) ?_
    refine g_iconst X (v := 0) dX10_both1_16 (by decide) ?_
    obtain ⟨r17, m17, h17, hf⟩ := bi_i hf
    refine g_eVI X 63 9 [.int (97 : Int32), .int (110 : Int32), .int (100 : Int32), .int (0 : Int32), .int (0 : Int32), .int (0 : Int32), .int (0 : Int32), .int (0 : Int32)] kV_X10_199 (c_X10_isWord h17) dX10_both1_17 rfl rfl (sgN (by decide)) rfl (by decide) rfl rfl ⟨(Nat.le_of_ble_eq_true rfl), (Nat.le_of_ble_eq_true rfl)⟩ ⟨rfl, rfl⟩ ⟨(Nat.zero_le _), (Nat.zero_le _)⟩ (Nat.le_of_ble_eq_true rfl) ?_
    refine g_if_eq X (tgt := 49) dX10_both1_20 (by decide) (fun c20 => ?_) (fun c20 => ?_)
    · have hf := it c20 hf
      refine g_iload_n X 1 dX10_both1_49 rfl rfl ?_
      obtain ⟨rfl, rfl⟩ := lf2 hf
      exact hret 50 _ dX10_both1_50 rfl
    · have hf := ie c20 hf
      refine g_aload_n X 0 dX10_both1_23 rfl rfl ?_
      obtain ⟨m24, h24, hf⟩ := bv_i hf
      refine g_eVV X 63 9 [] kV_X10_196 (c_X10_next h24) dX10_both1_24 rfl rfl (sgN (by decide)) rfl (by decide) rfl rfl ⟨(Nat.le_of_ble_eq_true rfl), (Nat.le_of_ble_eq_true rfl)⟩ ⟨rfl, rfl⟩ ⟨(Nat.zero_le _), (Nat.zero_le _)⟩ (Nat.le_of_ble_eq_true rfl) ?_
      refine g_aload_n X 0 dX10_both1_27 rfl rfl ?_
      obtain ⟨r28, m28, h28, hf⟩ := bi_i hf
      refine g_eVI X 63 9 [] kV_X10_317 (c_X10_not1 h28) dX10_both1_28 rfl rfl (sgN (by decide)) rfl (by decide) rfl rfl ⟨(Nat.le_of_ble_eq_true rfl), (Nat.le_of_ble_eq_true rfl)⟩ ⟨rfl, rfl⟩ ⟨(Nat.zero_le _), (Nat.zero_le _)⟩ (Nat.le_of_ble_eq_true rfl) ?_
      refine g_istore_n X (lv' := [(2, .int r28), (0, .ref (ad 63)), (1, .int v1)]) dX10_both1_31 rfl (by decide) rfl ?_
      refine g_iload_n X 2 dX10_both1_32 rfl rfl ?_
      refine g_if_eq X (tgt := 44) dX10_both1_33 (by decide) (fun c33 => ?_) (fun c33 => ?_)
      · have hf := it c33 hf
        refine g_pick [1] (lv' := [(0, .ref (ad 63))]) rfl ?_
        exact w_X10_both1_44 X hret ih m28 hf
      · have hf := ie c33 hf
        refine g_iload_n X 0 dX10_both1_36 rfl rfl ?_
        refine g_if_eq X (tgt := 44) dX10_both1_37 (by decide) (fun c37 => ?_) (fun c37 => ?_)
        · have hf := it c37 hf
          refine g_pick [1] (lv' := [(0, .ref (ad 63))]) rfl ?_
          exact w_X10_both1_44 X hret ih m28 hf
        · have hf := ie c37 hf
          refine g_iconst X (v := 1) dX10_both1_40 (by decide) ?_
          refine g_goto X (tgt := 45) dX10_both1_41 (by decide) ?_
          refine g_pick [1] (lv' := [(0, .ref (ad 63))]) rfl ?_
          exact w_X10_both1_45 X hret ih (1 : Int32) m28 hf
set_option maxRecDepth 100000 in
set_option maxHeartbeats 4000000 in
theorem c_X10_both1 {l : Launch} {G : GG} {b : Nat} {ad : Nat → Nat} {nt : Nat} {z : Nat → Nat} {m0 : Mem} {r9 : Int32} {m9 : Mem} (hf : X10_both1 m0 = some (r9, m9)) : MtI l yX10_both1 cX10_both1 3 (some .int) rmX10_both1 G b (sg ad nt z) m0 [.ref (ad 63)] (pEI r9 (sg ad nt z) m9) := by
  refine mtI_of (by decide) (Nat.le_of_ble_eq_true rfl) .int rfl (fun Γ hG X hnm hr => ?_)
  have hret : ∀ (pc : Nat) (lv : List (Nat × Value)), decode cX10_both1 pc = .ok (.ireturn, 1) → narrow .int (.int r9) = .int r9 → Go Γ b (sg ad nt z) 0 0 pc lv [.int r9] m9 := fun pc lv d hn => hr pc lv _ _ _ d ⟨rfl, rfl, rfl⟩ hn
  show Go Γ b (sg ad nt z) 0 0 0 [(0, .ref (ad 63))] [] m0
  refine g_aload_n X 0 dX10_both1_0 rfl rfl ?_
  obtain ⟨r1, m1, h1, hf⟩ := bi_i hf
  refine g_eVI X 63 9 [] kV_X10_317 (c_X10_not1 h1) dX10_both1_1 rfl rfl (sgN (by decide)) rfl (by decide) rfl rfl ⟨(Nat.le_of_ble_eq_true rfl), (Nat.le_of_ble_eq_true rfl)⟩ ⟨rfl, rfl⟩ ⟨(Nat.zero_le _), (Nat.zero_le _)⟩ (Nat.le_of_ble_eq_true rfl) ?_
  refine g_istore_n X (lv' := [(1, .int r1), (0, .ref (ad 63))]) dX10_both1_4 rfl (by decide) rfl ?_
  refine g_pick [1, 0] (lv' := [(0, .ref (ad 63)), (1, .int r1)]) rfl ?_
  exact w_X10_both1_5 X hret 10000 r1 m1 hf

theorem kV_X10_320 : wcV RX10 320 RX10 yX10_both1 cX10_both1 3 (some .int) 0 := ⟨q_ml_X10_320, q_im_yX10_both1, q_se_yX10_both1, q_in_X10, q_co_yX10_both1, by decide +kernel⟩

def X10_either1_44 (k5 : Int32 → Mem → Option (Int32 × Mem)) (s0 : Int32) (m0 : Mem) : Option (Int32 × Mem) :=
  k5 s0 m0
def X10_either1_39 (k5 : Int32 → Mem → Option (Int32 × Mem)) (m0 : Mem) : Option (Int32 × Mem) :=
  X10_either1_44 k5 (1 : Int32) m0
def X10_either1_5 : Nat → Int32 → Mem → Option (Int32 × Mem)
  | 0, _, _ => none
  | n + 1, v1, m0 =>
    bi (X10_isWord (111 : Int32) (114 : Int32) (0 : Int32) (0 : Int32) (0 : Int32) (0 : Int32) (0 : Int32) (0 : Int32) m0) fun r16 m16 =>
    if r16 = 0 then
      some (v1, m16)
    else
      bv (X10_next m16) fun m23 =>
      bi (X10_both1 m23) fun r27 m27 =>
      if v1 = 0 then
        if r27 = 0 then
          X10_either1_44 (X10_either1_5 n) (0 : Int32) m27
        else
          X10_either1_39 (X10_either1_5 n) m27
      else
        X10_either1_39 (X10_either1_5 n) m27
def X10_either1 (m0 : Mem) : Option (Int32 × Mem) :=
  bi (X10_both1 m0) fun r1 m1 =>
  X10_either1_5 10000 r1 m1
abbrev rmX10_either1 : Room := { frames := 33, cells := 0, slots := 0, locals := 729 }
set_option maxRecDepth 100000 in
set_option maxHeartbeats 4000000 in
theorem w_X10_either1_44 {Γ : Ga} {b : Nat} {ad : Nat → Nat} {nt : Nat} {z : Nat → Nat} {k5 : Int32 → Mem → Option (Int32 × Mem)} {r9 : Int32} {m9 : Mem} (X : Cx Γ b cX10_either1 3 RX10 (some .int) rmX10_either1) (hret : ∀ (pc : Nat) (lv : List (Nat × Value)), decode cX10_either1 pc = .ok (.ireturn, 1) → narrow .int (.int r9) = .int r9 → Go Γ b (sg ad nt z) 0 0 pc lv [.int r9] m9) (hk5 : ∀ (v1 : Int32) (m0 : Mem), k5 v1 m0 = some (r9, m9) → Go Γ b (sg ad nt z) 0 0 5 [(0, .ref (ad 63)), (1, .int v1)] [] m0) (s0 : Int32) (m0 : Mem) (hf : X10_either1_44 k5 s0 m0 = some (r9, m9)) : Go Γ b (sg ad nt z) 0 0 44 [(0, .ref (ad 63))] [.int s0] m0 := by
  refine g_istore_n X (lv' := [(1, .int s0), (0, .ref (ad 63))]) dX10_either1_44 rfl (by decide) rfl ?_
  refine g_goto X (tgt := 5) dX10_either1_45 (by decide) ?_
  refine g_pick [1, 0] (lv' := [(0, .ref (ad 63)), (1, .int s0)]) rfl ?_
  exact hk5 s0 m0 hf
set_option maxRecDepth 100000 in
set_option maxHeartbeats 4000000 in
theorem w_X10_either1_39 {Γ : Ga} {b : Nat} {ad : Nat → Nat} {nt : Nat} {z : Nat → Nat} {k5 : Int32 → Mem → Option (Int32 × Mem)} {r9 : Int32} {m9 : Mem} (X : Cx Γ b cX10_either1 3 RX10 (some .int) rmX10_either1) (hret : ∀ (pc : Nat) (lv : List (Nat × Value)), decode cX10_either1 pc = .ok (.ireturn, 1) → narrow .int (.int r9) = .int r9 → Go Γ b (sg ad nt z) 0 0 pc lv [.int r9] m9) (hk5 : ∀ (v1 : Int32) (m0 : Mem), k5 v1 m0 = some (r9, m9) → Go Γ b (sg ad nt z) 0 0 5 [(0, .ref (ad 63)), (1, .int v1)] [] m0) (m0 : Mem) (hf : X10_either1_39 k5 m0 = some (r9, m9)) : Go Γ b (sg ad nt z) 0 0 39 [(0, .ref (ad 63))] [] m0 := by
  refine g_iconst X (v := 1) dX10_either1_39 (by decide) ?_
  refine g_goto X (tgt := 44) dX10_either1_40 (by decide) ?_
  exact w_X10_either1_44 X hret hk5 (1 : Int32) m0 hf
set_option maxRecDepth 100000 in
set_option maxHeartbeats 4000000 in
theorem w_X10_either1_5 {Γ : Ga} {b : Nat} {ad : Nat → Nat} {nt : Nat} {z : Nat → Nat} {r9 : Int32} {m9 : Mem} (X : Cx Γ b cX10_either1 3 RX10 (some .int) rmX10_either1) (hret : ∀ (pc : Nat) (lv : List (Nat × Value)), decode cX10_either1 pc = .ok (.ireturn, 1) → narrow .int (.int r9) = .int r9 → Go Γ b (sg ad nt z) 0 0 pc lv [.int r9] m9) : ∀ (n : Nat) (v1 : Int32) (m0 : Mem), X10_either1_5 n v1 m0 = some (r9, m9) → Go Γ b (sg ad nt z) 0 0 5 [(0, .ref (ad 63)), (1, .int v1)] [] m0 := by
  intro n
  induction n with
  | zero =>
    intro v1 m0 hf
    cases hf
  | succ n ih =>
    intro v1 m0 hf
    refine g_aload_n X 0 dX10_either1_5 rfl rfl ?_
    refine g_bipush X (v := 111) dX10_either1_6 (by decide) ?_
    refine g_bipush X (v := 114) dX10_either1_8 (by decide) ?_
    refine g_iconst X (v := 0) dX10_either1_10 (by decide) ?_
    refine g_iconst X (v := 0) dX10_either1_11 (by decide) ?_
    refine g_iconst X (v := 0) dX10_either1_12 (by decide) ?_
    refine g_iconst X (v := 0) dX10_either1_13 (by decide) ?_
    refine g_iconst X (v := 0) dX10_either1_14 (by decide) ?_
    refine g_iconst X (v := 0) dX10_either1_15 (by decide) ?_
    obtain ⟨r16, m16, h16, hf⟩ := bi_i hf
    refine g_eVI X 63 9 [.int (111 : Int32), .int (114 : Int32), .int (0 : Int32), .int (0 : Int32), .int (0 : Int32), .int (0 : Int32), .int (0 : Int32), .int (0 : Int32)] kV_X10_199 (c_X10_isWord h16) dX10_either1_16 rfl rfl (sgN (by decide)) rfl (by decide) rfl rfl ⟨(Nat.le_of_ble_eq_true rfl), (Nat.le_of_ble_eq_true rfl)⟩ ⟨rfl, rfl⟩ ⟨(Nat.zero_le _), (Nat.zero_le _)⟩ (Nat.le_of_ble_eq_true rfl) ?_
    refine g_if_eq X (tgt := 48) dX10_either1_19 (by decide) (fun c19 => ?_) (fun c19 => ?_)
    · have hf := it c19 hf
      refine g_iload_n X 1 dX10_either1_48 rfl rfl ?_
      obtain ⟨rfl, rfl⟩ := lf2 hf
      exact hret 49 _ dX10_either1_49 rfl
    · have hf := ie c19 hf
      refine g_aload_n X 0 dX10_either1_22 rfl rfl ?_
      obtain ⟨m23, h23, hf⟩ := bv_i hf
      refine g_eVV X 63 9 [] kV_X10_196 (c_X10_next h23) dX10_either1_23 rfl rfl (sgN (by decide)) rfl (by decide) rfl rfl ⟨(Nat.le_of_ble_eq_true rfl), (Nat.le_of_ble_eq_true rfl)⟩ ⟨rfl, rfl⟩ ⟨(Nat.zero_le _), (Nat.zero_le _)⟩ (Nat.le_of_ble_eq_true rfl) ?_
      refine g_aload_n X 0 dX10_either1_26 rfl rfl ?_
      obtain ⟨r27, m27, h27, hf⟩ := bi_i hf
      refine g_eVI X 63 9 [] kV_X10_320 (c_X10_both1 h27) dX10_either1_27 rfl rfl (sgN (by decide)) rfl (by decide) rfl rfl ⟨(Nat.le_of_ble_eq_true rfl), (Nat.le_of_ble_eq_true rfl)⟩ ⟨rfl, rfl⟩ ⟨(Nat.zero_le _), (Nat.zero_le _)⟩ (Nat.le_of_ble_eq_true rfl) ?_
      refine g_istore_n X (lv' := [(2, .int r27), (0, .ref (ad 63)), (1, .int v1)]) dX10_either1_30 rfl (by decide) rfl ?_
      refine g_iload_n X 2 dX10_either1_31 rfl rfl ?_
      refine g_if_ne X (tgt := 39) dX10_either1_32 (by decide) (fun c32 => ?_) (fun c32 => ?_)
      · have hf := ie c32 hf
        refine g_pick [1] (lv' := [(0, .ref (ad 63))]) rfl ?_
        exact w_X10_either1_39 X hret ih m27 hf
      · have hf := it c32 hf
        refine g_iload_n X 0 dX10_either1_35 rfl rfl ?_
        refine g_if_eq X (tgt := 43) dX10_either1_36 (by decide) (fun c36 => ?_) (fun c36 => ?_)
        · have hf := it c36 hf
          refine g_iconst X (v := 0) dX10_either1_43 (by decide) ?_
          refine g_pick [1] (lv' := [(0, .ref (ad 63))]) rfl ?_
          exact w_X10_either1_44 X hret ih (0 : Int32) m27 hf
        · have hf := ie c36 hf
          refine g_pick [1] (lv' := [(0, .ref (ad 63))]) rfl ?_
          exact w_X10_either1_39 X hret ih m27 hf
set_option maxRecDepth 100000 in
set_option maxHeartbeats 4000000 in
theorem c_X10_either1 {l : Launch} {G : GG} {b : Nat} {ad : Nat → Nat} {nt : Nat} {z : Nat → Nat} {m0 : Mem} {r9 : Int32} {m9 : Mem} (hf : X10_either1 m0 = some (r9, m9)) : MtI l yX10_either1 cX10_either1 3 (some .int) rmX10_either1 G b (sg ad nt z) m0 [.ref (ad 63)] (pEI r9 (sg ad nt z) m9) := by
  refine mtI_of (by decide) (Nat.le_of_ble_eq_true rfl) .int rfl (fun Γ hG X hnm hr => ?_)
  have hret : ∀ (pc : Nat) (lv : List (Nat × Value)), decode cX10_either1 pc = .ok (.ireturn, 1) → narrow .int (.int r9) = .int r9 → Go Γ b (sg ad nt z) 0 0 pc lv [.int r9] m9 := fun pc lv d hn => hr pc lv _ _ _ d ⟨rfl, rfl, rfl⟩ hn
  show Go Γ b (sg ad nt z) 0 0 0 [(0, .ref (ad 63))] [] m0
  refine g_aload_n X 0 dX10_either1_0 rfl rfl ?_
  obtain ⟨r1, m1, h1, hf⟩ := bi_i hf
  refine g_eVI X 63 9 [] kV_X10_320 (c_X10_both1 h1) dX10_either1_1 rfl rfl (sgN (by decide)) rfl (by decide) rfl rfl ⟨(Nat.le_of_ble_eq_true rfl), (Nat.le_of_ble_eq_true rfl)⟩ ⟨rfl, rfl⟩ ⟨(Nat.zero_le _), (Nat.zero_le _)⟩ (Nat.le_of_ble_eq_true rfl) ?_
  refine g_istore_n X (lv' := [(1, .int r1), (0, .ref (ad 63))]) dX10_either1_4 rfl (by decide) rfl ?_
  refine g_pick [1, 0] (lv' := [(0, .ref (ad 63)), (1, .int r1)]) rfl ?_
  exact w_X10_either1_5 X hret 10000 r1 m1 hf

theorem kV_X10_323 : wcV RX10 323 RX10 yX10_either1 cX10_either1 3 (some .int) 0 := ⟨q_ml_X10_323, q_im_yX10_either1, q_se_yX10_either1, q_in_X10, q_co_yX10_either1, by decide +kernel⟩

def X10_atom0_157 (v1 : Int32) (m0 : Mem) : Option (Int32 × Mem) :=
  bv (X10_fail m0) fun m158 =>
  some (v1, m158)
def X10_atom0_123 (v1 : Int32) (m0 : Mem) : Option (Int32 × Mem) :=
  if (m0.1 63 26) = 0 then
    if (m0.1 63 22) = (1 : Int32) then
      bi (X10_name m0) fun r139 m139 =>
      if (m139.1 63 26) = 0 then
        bv (X10_next m139) fun m151 =>
        some (r139, m151)
      else
        some (r139, m139)
    else
      X10_atom0_157 v1 m0
  else
    X10_atom0_157 v1 m0
def X10_atom0_71 (v1 : Int32) (m0 : Mem) : Option (Int32 × Mem) :=
  if ((pI m0 63 25 ((m0.1 63 25) - (1 : Int32))).1 63 26) = 0 then
    bv (X10_next (pI m0 63 25 ((m0.1 63 25) - (1 : Int32)))) fun m89 =>
    some (v1, m89)
  else
    some (v1, pI m0 63 25 ((m0.1 63 25) - (1 : Int32)))
def X10_atom0 (m0 : Mem) : Option (Int32 × Mem) :=
  bi (X10_isSign (45 : Int32) m0) fun r5 m5 =>
  if r5 = 0 then
    bi (X10_isSign (40 : Int32) m5) fun r40 m40 =>
    if r40 = 0 then
      if (m40.1 63 26) = 0 then
        if (m40.1 63 22) = (2 : Int32) then
          bv (X10_next m40) fun m117 =>
          some ((m40.2 63 24).toInt32, m117)
        else
          X10_atom0_123 (0 : Int32) m40
      else
        X10_atom0_123 (0 : Int32) m40
    else
      bi (X10_opens m40) fun r47 m47 =>
      if r47 = 0 then
        some ((0 : Int32), m47)
      else
        bi (X10_either1 m47) fun r54 m54 =>
        bi (X10_isSign (41 : Int32) m54) fun r61 m61 =>
        if r61 = 0 then
          bv (X10_fail m61) fun m68 =>
          X10_atom0_71 r54 m68
        else
          X10_atom0_71 r54 m61
  else
    bi (X10_opens m5) fun r12 m12 =>
    if r12 = 0 then
      some ((0 : Int32), m12)
    else
      bi (X10_atom1 m12) fun r19 m19 =>
      some (-r19, pI m19 63 25 ((m19.1 63 25) - (1 : Int32)))
abbrev rmX10_atom0 : Room := { frames := 34, cells := 0, slots := 0, locals := 751 }
set_option maxRecDepth 100000 in
set_option maxHeartbeats 4000000 in
theorem w_X10_atom0_157 {Γ : Ga} {b : Nat} {ad : Nat → Nat} {nt : Nat} {z : Nat → Nat} {r9 : Int32} {m9 : Mem} (X : Cx Γ b cX10_atom0 2 RX10 (some .int) rmX10_atom0) (hret : ∀ (pc : Nat) (lv : List (Nat × Value)), decode cX10_atom0 pc = .ok (.ireturn, 1) → narrow .int (.int r9) = .int r9 → Go Γ b (sg ad nt z) 0 0 pc lv [.int r9] m9) (v1 : Int32) (m0 : Mem) (hf : X10_atom0_157 v1 m0 = some (r9, m9)) : Go Γ b (sg ad nt z) 0 0 157 [(0, .ref (ad 63)), (1, .int v1)] [] m0 := by
  refine g_aload_n X 0 dX10_atom0_157 rfl rfl ?_
  obtain ⟨m158, h158, hf⟩ := bv_i hf
  refine g_eVV X 63 9 [] kV_X10_193 (c_X10_fail h158) dX10_atom0_158 rfl rfl (sgN (by decide)) rfl (by decide) rfl rfl ⟨(Nat.le_of_ble_eq_true rfl), (Nat.le_of_ble_eq_true rfl)⟩ ⟨rfl, rfl⟩ ⟨(Nat.zero_le _), (Nat.zero_le _)⟩ (Nat.le_of_ble_eq_true rfl) ?_
  refine g_iload_n X 1 dX10_atom0_161 rfl rfl ?_
  obtain ⟨rfl, rfl⟩ := lf2 hf
  exact hret 162 _ dX10_atom0_162 rfl
set_option maxRecDepth 100000 in
set_option maxHeartbeats 4000000 in
theorem w_X10_atom0_123 {Γ : Ga} {b : Nat} {ad : Nat → Nat} {nt : Nat} {z : Nat → Nat} {r9 : Int32} {m9 : Mem} (X : Cx Γ b cX10_atom0 2 RX10 (some .int) rmX10_atom0) (hret : ∀ (pc : Nat) (lv : List (Nat × Value)), decode cX10_atom0 pc = .ok (.ireturn, 1) → narrow .int (.int r9) = .int r9 → Go Γ b (sg ad nt z) 0 0 pc lv [.int r9] m9) (v1 : Int32) (m0 : Mem) (hf : X10_atom0_123 v1 m0 = some (r9, m9)) : Go Γ b (sg ad nt z) 0 0 123 [(0, .ref (ad 63)), (1, .int v1)] [] m0 := by
  refine g_aload_n X 0 dX10_atom0_123 rfl rfl ?_
  refine g_getI X 63 9 26 dX10_atom0_124 (sgN (by decide)) rfl (by decide) rfl iw_X10 (by decide) rfl q_fl_X10_180 ?_
  refine g_if_ne X (tgt := 157) dX10_atom0_127 (by decide) (fun c127 => ?_) (fun c127 => ?_)
  · have hf := ie c127 hf
    exact w_X10_atom0_157 X hret v1 m0 hf
  · have hf := it c127 hf
    refine g_aload_n X 0 dX10_atom0_130 rfl rfl ?_
    refine g_getI X 63 9 22 dX10_atom0_131 (sgN (by decide)) rfl (by decide) rfl iw_X10 (by decide) rfl q_fl_X10_165 ?_
    refine g_iconst X (v := 1) dX10_atom0_134 (by decide) ?_
    refine g_icmp_ne X (tgt := 157) dX10_atom0_135 (by decide) (fun c135 => ?_) (fun c135 => ?_)
    · have hf := ie c135 hf
      exact w_X10_atom0_157 X hret v1 m0 hf
    · have hf := it c135 hf
      refine g_aload_n X 0 dX10_atom0_138 rfl rfl ?_
      obtain ⟨r139, m139, h139, hf⟩ := bi_i hf
      refine g_eVI X 63 9 [] kV_X10_228 (c_X10_name h139) dX10_atom0_139 rfl rfl (sgN (by decide)) rfl (by decide) rfl rfl ⟨(Nat.le_of_ble_eq_true rfl), (Nat.le_of_ble_eq_true rfl)⟩ ⟨rfl, rfl⟩ ⟨(Nat.zero_le _), (Nat.zero_le _)⟩ (Nat.le_of_ble_eq_true rfl) ?_
      refine g_istore_n X (lv' := [(1, .int r139), (0, .ref (ad 63))]) dX10_atom0_142 rfl (by decide) rfl ?_
      refine g_aload_n X 1 dX10_atom0_143 rfl rfl ?_
      refine g_getI X 63 9 26 dX10_atom0_144 (sgN (by decide)) rfl (by decide) rfl iw_X10 (by decide) rfl q_fl_X10_180 ?_
      refine g_if_ne X (tgt := 161) dX10_atom0_147 (by decide) (fun c147 => ?_) (fun c147 => ?_)
      · have hf := ie c147 hf
        refine g_iload_n X 0 dX10_atom0_161 rfl rfl ?_
        obtain ⟨rfl, rfl⟩ := lf2 hf
        exact hret 162 _ dX10_atom0_162 rfl
      · have hf := it c147 hf
        refine g_aload_n X 1 dX10_atom0_150 rfl rfl ?_
        obtain ⟨m151, h151, hf⟩ := bv_i hf
        refine g_eVV X 63 9 [] kV_X10_196 (c_X10_next h151) dX10_atom0_151 rfl rfl (sgN (by decide)) rfl (by decide) rfl rfl ⟨(Nat.le_of_ble_eq_true rfl), (Nat.le_of_ble_eq_true rfl)⟩ ⟨rfl, rfl⟩ ⟨(Nat.zero_le _), (Nat.zero_le _)⟩ (Nat.le_of_ble_eq_true rfl) ?_
        refine g_goto X (tgt := 161) dX10_atom0_154 (by decide) ?_
        refine g_iload_n X 0 dX10_atom0_161 rfl rfl ?_
        obtain ⟨rfl, rfl⟩ := lf2 hf
        exact hret 162 _ dX10_atom0_162 rfl
set_option maxRecDepth 100000 in
set_option maxHeartbeats 4000000 in
theorem w_X10_atom0_71 {Γ : Ga} {b : Nat} {ad : Nat → Nat} {nt : Nat} {z : Nat → Nat} {r9 : Int32} {m9 : Mem} (X : Cx Γ b cX10_atom0 2 RX10 (some .int) rmX10_atom0) (hret : ∀ (pc : Nat) (lv : List (Nat × Value)), decode cX10_atom0 pc = .ok (.ireturn, 1) → narrow .int (.int r9) = .int r9 → Go Γ b (sg ad nt z) 0 0 pc lv [.int r9] m9) (v1 : Int32) (m0 : Mem) (hf : X10_atom0_71 v1 m0 = some (r9, m9)) : Go Γ b (sg ad nt z) 0 0 71 [(0, .ref (ad 63)), (1, .int v1)] [] m0 := by
  refine g_aload_n X 0 dX10_atom0_71 rfl rfl ?_
  refine g_dup X dX10_atom0_72 rfl ?_
  refine g_getI X 63 9 25 dX10_atom0_73 (sgN (by decide)) rfl (by decide) rfl iw_X10 (by decide) rfl q_fl_X10_190 ?_
  refine g_iconst X (v := 1) dX10_atom0_76 (by decide) ?_
  refine g_isub X dX10_atom0_77 ?_
  refine g_putI X (tyf := tyX10) 63 9 25 dX10_atom0_78 (sgN (by decide)) rfl (by decide) rfl iw_X10 (by decide) rfl q_fl_X10_190 tyX10_ok nmX10 rfl rfl rfl ?_
  refine g_aload_n X 0 dX10_atom0_81 rfl rfl ?_
  refine g_getI X 63 9 26 dX10_atom0_82 (sgN (by decide)) rfl (by decide) rfl iw_X10 (by decide) rfl q_fl_X10_180 ?_
  refine g_if_ne X (tgt := 161) dX10_atom0_85 (by decide) (fun c85 => ?_) (fun c85 => ?_)
  · have hf := ie c85 hf
    refine g_iload_n X 1 dX10_atom0_161 rfl rfl ?_
    obtain ⟨rfl, rfl⟩ := lf2 hf
    exact hret 162 _ dX10_atom0_162 rfl
  · have hf := it c85 hf
    refine g_aload_n X 0 dX10_atom0_88 rfl rfl ?_
    obtain ⟨m89, h89, hf⟩ := bv_i hf
    refine g_eVV X 63 9 [] kV_X10_196 (c_X10_next h89) dX10_atom0_89 rfl rfl (sgN (by decide)) rfl (by decide) rfl rfl ⟨(Nat.le_of_ble_eq_true rfl), (Nat.le_of_ble_eq_true rfl)⟩ ⟨rfl, rfl⟩ ⟨(Nat.zero_le _), (Nat.zero_le _)⟩ (Nat.le_of_ble_eq_true rfl) ?_
    refine g_goto X (tgt := 161) dX10_atom0_92 (by decide) ?_
    refine g_iload_n X 1 dX10_atom0_161 rfl rfl ?_
    obtain ⟨rfl, rfl⟩ := lf2 hf
    exact hret 162 _ dX10_atom0_162 rfl
set_option maxRecDepth 100000 in
set_option maxHeartbeats 4000000 in
theorem c_X10_atom0 {l : Launch} {G : GG} {b : Nat} {ad : Nat → Nat} {nt : Nat} {z : Nat → Nat} {m0 : Mem} {r9 : Int32} {m9 : Mem} (hf : X10_atom0 m0 = some (r9, m9)) : MtI l yX10_atom0 cX10_atom0 2 (some .int) rmX10_atom0 G b (sg ad nt z) m0 [.ref (ad 63)] (pEI r9 (sg ad nt z) m9) := by
  refine mtI_of (by decide) (Nat.le_of_ble_eq_true rfl) .int rfl (fun Γ hG X hnm hr => ?_)
  have hret : ∀ (pc : Nat) (lv : List (Nat × Value)), decode cX10_atom0 pc = .ok (.ireturn, 1) → narrow .int (.int r9) = .int r9 → Go Γ b (sg ad nt z) 0 0 pc lv [.int r9] m9 := fun pc lv d hn => hr pc lv _ _ _ d ⟨rfl, rfl, rfl⟩ hn
  show Go Γ b (sg ad nt z) 0 0 0 [(0, .ref (ad 63))] [] m0
  refine g_iconst X (v := 0) dX10_atom0_0 (by decide) ?_
  refine g_istore_n X (lv' := [(1, .int (0 : Int32)), (0, .ref (ad 63))]) dX10_atom0_1 rfl (by decide) rfl ?_
  refine g_aload_n X 1 dX10_atom0_2 rfl rfl ?_
  refine g_bipush X (v := 45) dX10_atom0_3 (by decide) ?_
  obtain ⟨r5, m5, h5, hf⟩ := bi_i hf
  refine g_eVI X 63 9 [.int (45 : Int32)] kV_X10_221 (c_X10_isSign h5) dX10_atom0_5 rfl rfl (sgN (by decide)) rfl (by decide) rfl rfl ⟨(Nat.le_of_ble_eq_true rfl), (Nat.le_of_ble_eq_true rfl)⟩ ⟨rfl, rfl⟩ ⟨(Nat.zero_le _), (Nat.zero_le _)⟩ (Nat.le_of_ble_eq_true rfl) ?_
  refine g_if_eq X (tgt := 37) dX10_atom0_8 (by decide) (fun c8 => ?_) (fun c8 => ?_)
  · have hf := it c8 hf
    refine g_aload_n X 1 dX10_atom0_37 rfl rfl ?_
    refine g_bipush X (v := 40) dX10_atom0_38 (by decide) ?_
    obtain ⟨r40, m40, h40, hf⟩ := bi_i hf
    refine g_eVI X 63 9 [.int (40 : Int32)] kV_X10_221 (c_X10_isSign h40) dX10_atom0_40 rfl rfl (sgN (by decide)) rfl (by decide) rfl rfl ⟨(Nat.le_of_ble_eq_true rfl), (Nat.le_of_ble_eq_true rfl)⟩ ⟨rfl, rfl⟩ ⟨(Nat.zero_le _), (Nat.zero_le _)⟩ (Nat.le_of_ble_eq_true rfl) ?_
    refine g_if_eq X (tgt := 95) dX10_atom0_43 (by decide) (fun c43 => ?_) (fun c43 => ?_)
    · have hf := it c43 hf
      refine g_aload_n X 1 dX10_atom0_95 rfl rfl ?_
      refine g_getI X 63 9 26 dX10_atom0_96 (sgN (by decide)) rfl (by decide) rfl iw_X10 (by decide) rfl q_fl_X10_180 ?_
      refine g_if_ne X (tgt := 123) dX10_atom0_99 (by decide) (fun c99 => ?_) (fun c99 => ?_)
      · have hf := ie c99 hf
        refine g_pick [1, 0] (lv' := [(0, .ref (ad 63)), (1, .int (0 : Int32))]) rfl ?_
        exact w_X10_atom0_123 X hret (0 : Int32) m40 hf
      · have hf := it c99 hf
        refine g_aload_n X 1 dX10_atom0_102 rfl rfl ?_
        refine g_getI X 63 9 22 dX10_atom0_103 (sgN (by decide)) rfl (by decide) rfl iw_X10 (by decide) rfl q_fl_X10_165 ?_
        refine g_iconst X (v := 2) dX10_atom0_106 (by decide) ?_
        refine g_icmp_ne X (tgt := 123) dX10_atom0_107 (by decide) (fun c107 => ?_) (fun c107 => ?_)
        · have hf := ie c107 hf
          refine g_pick [1, 0] (lv' := [(0, .ref (ad 63)), (1, .int (0 : Int32))]) rfl ?_
          exact w_X10_atom0_123 X hret (0 : Int32) m40 hf
        · have hf := it c107 hf
          refine g_aload_n X 1 dX10_atom0_110 rfl rfl ?_
          refine g_getJ X 63 9 24 dX10_atom0_111 (sgN (by decide)) rfl (by decide) rfl iw_X10 (by decide) rfl q_fl_X10_176 ?_
          refine g_l2i X dX10_atom0_114 ?_
          refine g_istore_n X (lv' := [(1, .int ((m40.2 63 24).toInt32)), (0, .ref (ad 63))]) dX10_atom0_115 rfl (by decide) rfl ?_
          refine g_aload_n X 1 dX10_atom0_116 rfl rfl ?_
          obtain ⟨m117, h117, hf⟩ := bv_i hf
          refine g_eVV X 63 9 [] kV_X10_196 (c_X10_next h117) dX10_atom0_117 rfl rfl (sgN (by decide)) rfl (by decide) rfl rfl ⟨(Nat.le_of_ble_eq_true rfl), (Nat.le_of_ble_eq_true rfl)⟩ ⟨rfl, rfl⟩ ⟨(Nat.zero_le _), (Nat.zero_le _)⟩ (Nat.le_of_ble_eq_true rfl) ?_
          refine g_goto X (tgt := 161) dX10_atom0_120 (by decide) ?_
          refine g_iload_n X 0 dX10_atom0_161 rfl rfl ?_
          obtain ⟨rfl, rfl⟩ := lf2 hf
          exact hret 162 _ dX10_atom0_162 rfl
    · have hf := ie c43 hf
      refine g_aload_n X 1 dX10_atom0_46 rfl rfl ?_
      obtain ⟨r47, m47, h47, hf⟩ := bi_i hf
      refine g_eVI X 63 9 [] kV_X10_224 (c_X10_opens h47) dX10_atom0_47 rfl rfl (sgN (by decide)) rfl (by decide) rfl rfl ⟨(Nat.le_of_ble_eq_true rfl), (Nat.le_of_ble_eq_true rfl)⟩ ⟨rfl, rfl⟩ ⟨(Nat.zero_le _), (Nat.zero_le _)⟩ (Nat.le_of_ble_eq_true rfl) ?_
      refine g_if_eq X (tgt := 161) dX10_atom0_50 (by decide) (fun c50 => ?_) (fun c50 => ?_)
      · have hf := it c50 hf
        refine g_iload_n X 0 dX10_atom0_161 rfl rfl ?_
        obtain ⟨rfl, rfl⟩ := lf2 hf
        exact hret 162 _ dX10_atom0_162 rfl
      · have hf := ie c50 hf
        refine g_aload_n X 1 dX10_atom0_53 rfl rfl ?_
        obtain ⟨r54, m54, h54, hf⟩ := bi_i hf
        refine g_eVI X 63 9 [] kV_X10_323 (c_X10_either1 h54) dX10_atom0_54 rfl rfl (sgN (by decide)) rfl (by decide) rfl rfl ⟨(Nat.le_of_ble_eq_true rfl), (Nat.le_of_ble_eq_true rfl)⟩ ⟨rfl, rfl⟩ ⟨(Nat.zero_le _), (Nat.zero_le _)⟩ (Nat.le_of_ble_eq_true rfl) ?_
        refine g_istore_n X (lv' := [(1, .int r54), (0, .ref (ad 63))]) dX10_atom0_57 rfl (by decide) rfl ?_
        refine g_aload_n X 1 dX10_atom0_58 rfl rfl ?_
        refine g_bipush X (v := 41) dX10_atom0_59 (by decide) ?_
        obtain ⟨r61, m61, h61, hf⟩ := bi_i hf
        refine g_eVI X 63 9 [.int (41 : Int32)] kV_X10_221 (c_X10_isSign h61) dX10_atom0_61 rfl rfl (sgN (by decide)) rfl (by decide) rfl rfl ⟨(Nat.le_of_ble_eq_true rfl), (Nat.le_of_ble_eq_true rfl)⟩ ⟨rfl, rfl⟩ ⟨(Nat.zero_le _), (Nat.zero_le _)⟩ (Nat.le_of_ble_eq_true rfl) ?_
        refine g_if_ne X (tgt := 71) dX10_atom0_64 (by decide) (fun c64 => ?_) (fun c64 => ?_)
        · have hf := ie c64 hf
          refine g_pick [1, 0] (lv' := [(0, .ref (ad 63)), (1, .int r54)]) rfl ?_
          exact w_X10_atom0_71 X hret r54 m61 hf
        · have hf := it c64 hf
          refine g_aload_n X 1 dX10_atom0_67 rfl rfl ?_
          obtain ⟨m68, h68, hf⟩ := bv_i hf
          refine g_eVV X 63 9 [] kV_X10_193 (c_X10_fail h68) dX10_atom0_68 rfl rfl (sgN (by decide)) rfl (by decide) rfl rfl ⟨(Nat.le_of_ble_eq_true rfl), (Nat.le_of_ble_eq_true rfl)⟩ ⟨rfl, rfl⟩ ⟨(Nat.zero_le _), (Nat.zero_le _)⟩ (Nat.le_of_ble_eq_true rfl) ?_
          refine g_pick [1, 0] (lv' := [(0, .ref (ad 63)), (1, .int r54)]) rfl ?_
          exact w_X10_atom0_71 X hret r54 m68 hf
  · have hf := ie c8 hf
    refine g_aload_n X 1 dX10_atom0_11 rfl rfl ?_
    obtain ⟨r12, m12, h12, hf⟩ := bi_i hf
    refine g_eVI X 63 9 [] kV_X10_224 (c_X10_opens h12) dX10_atom0_12 rfl rfl (sgN (by decide)) rfl (by decide) rfl rfl ⟨(Nat.le_of_ble_eq_true rfl), (Nat.le_of_ble_eq_true rfl)⟩ ⟨rfl, rfl⟩ ⟨(Nat.zero_le _), (Nat.zero_le _)⟩ (Nat.le_of_ble_eq_true rfl) ?_
    refine g_if_eq X (tgt := 161) dX10_atom0_15 (by decide) (fun c15 => ?_) (fun c15 => ?_)
    · have hf := it c15 hf
      refine g_iload_n X 0 dX10_atom0_161 rfl rfl ?_
      obtain ⟨rfl, rfl⟩ := lf2 hf
      exact hret 162 _ dX10_atom0_162 rfl
    · have hf := ie c15 hf
      refine g_aload_n X 1 dX10_atom0_18 rfl rfl ?_
      obtain ⟨r19, m19, h19, hf⟩ := bi_i hf
      refine g_eVI X 63 9 [] kV_X10_308 (c_X10_atom1 h19) dX10_atom0_19 rfl rfl (sgN (by decide)) rfl (by decide) rfl rfl ⟨(Nat.le_of_ble_eq_true rfl), (Nat.le_of_ble_eq_true rfl)⟩ ⟨rfl, rfl⟩ ⟨(Nat.zero_le _), (Nat.zero_le _)⟩ (Nat.le_of_ble_eq_true rfl) ?_
      refine g_ineg X dX10_atom0_22 ?_
      refine g_istore_n X (lv' := [(1, .int (-r19)), (0, .ref (ad 63))]) dX10_atom0_23 rfl (by decide) rfl ?_
      refine g_aload_n X 1 dX10_atom0_24 rfl rfl ?_
      refine g_dup X dX10_atom0_25 rfl ?_
      refine g_getI X 63 9 25 dX10_atom0_26 (sgN (by decide)) rfl (by decide) rfl iw_X10 (by decide) rfl q_fl_X10_190 ?_
      refine g_iconst X (v := 1) dX10_atom0_29 (by decide) ?_
      refine g_isub X dX10_atom0_30 ?_
      refine g_putI X (tyf := tyX10) 63 9 25 dX10_atom0_31 (sgN (by decide)) rfl (by decide) rfl iw_X10 (by decide) rfl q_fl_X10_190 tyX10_ok nmX10 rfl rfl rfl ?_
      refine g_goto X (tgt := 161) dX10_atom0_34 (by decide) ?_
      refine g_iload_n X 0 dX10_atom0_161 rfl rfl ?_
      obtain ⟨rfl, rfl⟩ := lf2 hf
      exact hret 162 _ dX10_atom0_162 rfl

theorem kV_X10_326 : wcV RX10 326 RX10 yX10_atom0 cX10_atom0 2 (some .int) 0 := ⟨q_ml_X10_326, q_im_yX10_atom0, q_se_yX10_atom0, q_in_X10, q_co_yX10_atom0, by decide +kernel⟩

def X10_term0_5 : Nat → Int32 → Mem → Option (Int32 × Mem)
  | 0, _, _ => none
  | n + 1, v1, m0 =>
    bi (X10_isSign (42 : Int32) m0) fun r8 m8 =>
    if r8 = 0 then
      some (v1, m8)
    else
      bv (X10_next m8) fun m15 =>
      bi (X10_atom0 m15) fun r20 m20 =>
      X10_term0_5 n (v1 * r20) m20
def X10_term0 (m0 : Mem) : Option (Int32 × Mem) :=
  bi (X10_atom0 m0) fun r1 m1 =>
  X10_term0_5 10000 r1 m1
abbrev rmX10_term0 : Room := { frames := 35, cells := 0, slots := 0, locals := 772 }
set_option maxRecDepth 100000 in
set_option maxHeartbeats 4000000 in
theorem w_X10_term0_5 {Γ : Ga} {b : Nat} {ad : Nat → Nat} {nt : Nat} {z : Nat → Nat} {r9 : Int32} {m9 : Mem} (X : Cx Γ b cX10_term0 2 RX10 (some .int) rmX10_term0) (hret : ∀ (pc : Nat) (lv : List (Nat × Value)), decode cX10_term0 pc = .ok (.ireturn, 1) → narrow .int (.int r9) = .int r9 → Go Γ b (sg ad nt z) 0 0 pc lv [.int r9] m9) : ∀ (n : Nat) (v1 : Int32) (m0 : Mem), X10_term0_5 n v1 m0 = some (r9, m9) → Go Γ b (sg ad nt z) 0 0 5 [(0, .ref (ad 63)), (1, .int v1)] [] m0 := by
  intro n
  induction n with
  | zero =>
    intro v1 m0 hf
    cases hf
  | succ n ih =>
    intro v1 m0 hf
    refine g_aload_n X 0 dX10_term0_5 rfl rfl ?_
    refine g_bipush X (v := 42) dX10_term0_6 (by decide) ?_
    obtain ⟨r8, m8, h8, hf⟩ := bi_i hf
    refine g_eVI X 63 9 [.int (42 : Int32)] kV_X10_221 (c_X10_isSign h8) dX10_term0_8 rfl rfl (sgN (by decide)) rfl (by decide) rfl rfl ⟨(Nat.le_of_ble_eq_true rfl), (Nat.le_of_ble_eq_true rfl)⟩ ⟨rfl, rfl⟩ ⟨(Nat.zero_le _), (Nat.zero_le _)⟩ (Nat.le_of_ble_eq_true rfl) ?_
    refine g_if_eq X (tgt := 28) dX10_term0_11 (by decide) (fun c11 => ?_) (fun c11 => ?_)
    · have hf := it c11 hf
      refine g_iload_n X 1 dX10_term0_28 rfl rfl ?_
      obtain ⟨rfl, rfl⟩ := lf2 hf
      exact hret 29 _ dX10_term0_29 rfl
    · have hf := ie c11 hf
      refine g_aload_n X 0 dX10_term0_14 rfl rfl ?_
      obtain ⟨m15, h15, hf⟩ := bv_i hf
      refine g_eVV X 63 9 [] kV_X10_196 (c_X10_next h15) dX10_term0_15 rfl rfl (sgN (by decide)) rfl (by decide) rfl rfl ⟨(Nat.le_of_ble_eq_true rfl), (Nat.le_of_ble_eq_true rfl)⟩ ⟨rfl, rfl⟩ ⟨(Nat.zero_le _), (Nat.zero_le _)⟩ (Nat.le_of_ble_eq_true rfl) ?_
      refine g_iload_n X 1 dX10_term0_18 rfl rfl ?_
      refine g_aload_n X 0 dX10_term0_19 rfl rfl ?_
      obtain ⟨r20, m20, h20, hf⟩ := bi_i hf
      refine g_eVI X 63 9 [] kV_X10_326 (c_X10_atom0 h20) dX10_term0_20 rfl rfl (sgN (by decide)) rfl (by decide) rfl rfl ⟨(Nat.le_of_ble_eq_true rfl), (Nat.le_of_ble_eq_true rfl)⟩ ⟨rfl, rfl⟩ ⟨(Nat.zero_le _), (Nat.zero_le _)⟩ (Nat.le_of_ble_eq_true rfl) ?_
      refine g_imul X dX10_term0_23 ?_
      refine g_istore_n X (lv' := [(1, .int (v1 * r20)), (0, .ref (ad 63))]) dX10_term0_24 rfl (by decide) rfl ?_
      refine g_goto X (tgt := 5) dX10_term0_25 (by decide) ?_
      refine g_pick [1, 0] (lv' := [(0, .ref (ad 63)), (1, .int (v1 * r20))]) rfl ?_
      exact ih (v1 * r20) m20 hf
set_option maxRecDepth 100000 in
set_option maxHeartbeats 4000000 in
theorem c_X10_term0 {l : Launch} {G : GG} {b : Nat} {ad : Nat → Nat} {nt : Nat} {z : Nat → Nat} {m0 : Mem} {r9 : Int32} {m9 : Mem} (hf : X10_term0 m0 = some (r9, m9)) : MtI l yX10_term0 cX10_term0 2 (some .int) rmX10_term0 G b (sg ad nt z) m0 [.ref (ad 63)] (pEI r9 (sg ad nt z) m9) := by
  refine mtI_of (by decide) (Nat.le_of_ble_eq_true rfl) .int rfl (fun Γ hG X hnm hr => ?_)
  have hret : ∀ (pc : Nat) (lv : List (Nat × Value)), decode cX10_term0 pc = .ok (.ireturn, 1) → narrow .int (.int r9) = .int r9 → Go Γ b (sg ad nt z) 0 0 pc lv [.int r9] m9 := fun pc lv d hn => hr pc lv _ _ _ d ⟨rfl, rfl, rfl⟩ hn
  show Go Γ b (sg ad nt z) 0 0 0 [(0, .ref (ad 63))] [] m0
  refine g_aload_n X 0 dX10_term0_0 rfl rfl ?_
  obtain ⟨r1, m1, h1, hf⟩ := bi_i hf
  refine g_eVI X 63 9 [] kV_X10_326 (c_X10_atom0 h1) dX10_term0_1 rfl rfl (sgN (by decide)) rfl (by decide) rfl rfl ⟨(Nat.le_of_ble_eq_true rfl), (Nat.le_of_ble_eq_true rfl)⟩ ⟨rfl, rfl⟩ ⟨(Nat.zero_le _), (Nat.zero_le _)⟩ (Nat.le_of_ble_eq_true rfl) ?_
  refine g_istore_n X (lv' := [(1, .int r1), (0, .ref (ad 63))]) dX10_term0_4 rfl (by decide) rfl ?_
  refine g_pick [1, 0] (lv' := [(0, .ref (ad 63)), (1, .int r1)]) rfl ?_
  exact w_X10_term0_5 X hret 10000 r1 m1 hf

theorem kV_X10_329 : wcV RX10 329 RX10 yX10_term0 cX10_term0 2 (some .int) 0 := ⟨q_ml_X10_329, q_im_yX10_term0, q_se_yX10_term0, q_in_X10, q_co_yX10_term0, by decide +kernel⟩

def X10_added0_62 (k5 : Int32 → Mem → Option (Int32 × Mem)) (s0 : Int32) (m0 : Mem) : Option (Int32 × Mem) :=
  k5 s0 m0
def X10_added0_39 (k5 : Int32 → Mem → Option (Int32 × Mem)) (v1 : Int32) (s0 : Int32) (m0 : Mem) : Option (Int32 × Mem) :=
  bv (X10_next m0) fun m41 =>
  bi (X10_term0 m41) fun r45 m45 =>
  if s0 = 0 then
    X10_added0_62 k5 (v1 - r45) m45
  else
    X10_added0_62 k5 (v1 + r45) m45
def X10_added0_23 (k5 : Int32 → Mem → Option (Int32 × Mem)) (v1 : Int32) (m0 : Mem) : Option (Int32 × Mem) :=
  if (lg_cmp (m0.2 63 24) (43 : Int64)) = 0 then
    X10_added0_39 k5 v1 (1 : Int32) m0
  else
    X10_added0_39 k5 v1 (0 : Int32) m0
def X10_added0_5 : Nat → Int32 → Mem → Option (Int32 × Mem)
  | 0, _, _ => none
  | n + 1, v1, m0 =>
    bi (X10_isSign (43 : Int32) m0) fun r8 m8 =>
    if r8 = 0 then
      bi (X10_isSign (45 : Int32) m8) fun r17 m17 =>
      if r17 = 0 then
        some (v1, m17)
      else
        X10_added0_23 (X10_added0_5 n) v1 m17
    else
      X10_added0_23 (X10_added0_5 n) v1 m8
def X10_added0 (m0 : Mem) : Option (Int32 × Mem) :=
  bi (X10_term0 m0) fun r1 m1 =>
  X10_added0_5 10000 r1 m1
abbrev rmX10_added0 : Room := { frames := 36, cells := 0, slots := 0, locals := 793 }
set_option maxRecDepth 100000 in
set_option maxHeartbeats 4000000 in
theorem w_X10_added0_62 {Γ : Ga} {b : Nat} {ad : Nat → Nat} {nt : Nat} {z : Nat → Nat} {k5 : Int32 → Mem → Option (Int32 × Mem)} {r9 : Int32} {m9 : Mem} (X : Cx Γ b cX10_added0 4 RX10 (some .int) rmX10_added0) (hret : ∀ (pc : Nat) (lv : List (Nat × Value)), decode cX10_added0 pc = .ok (.ireturn, 1) → narrow .int (.int r9) = .int r9 → Go Γ b (sg ad nt z) 0 0 pc lv [.int r9] m9) (hk5 : ∀ (v1 : Int32) (m0 : Mem), k5 v1 m0 = some (r9, m9) → Go Γ b (sg ad nt z) 0 0 5 [(0, .ref (ad 63)), (1, .int v1)] [] m0) (s0 : Int32) (m0 : Mem) (hf : X10_added0_62 k5 s0 m0 = some (r9, m9)) : Go Γ b (sg ad nt z) 0 0 62 [(0, .ref (ad 63))] [.int s0] m0 := by
  refine g_istore_n X (lv' := [(1, .int s0), (0, .ref (ad 63))]) dX10_added0_62 rfl (by decide) rfl ?_
  refine g_goto X (tgt := 5) dX10_added0_63 (by decide) ?_
  refine g_pick [1, 0] (lv' := [(0, .ref (ad 63)), (1, .int s0)]) rfl ?_
  exact hk5 s0 m0 hf
set_option maxRecDepth 100000 in
set_option maxHeartbeats 4000000 in
theorem w_X10_added0_39 {Γ : Ga} {b : Nat} {ad : Nat → Nat} {nt : Nat} {z : Nat → Nat} {k5 : Int32 → Mem → Option (Int32 × Mem)} {r9 : Int32} {m9 : Mem} (X : Cx Γ b cX10_added0 4 RX10 (some .int) rmX10_added0) (hret : ∀ (pc : Nat) (lv : List (Nat × Value)), decode cX10_added0 pc = .ok (.ireturn, 1) → narrow .int (.int r9) = .int r9 → Go Γ b (sg ad nt z) 0 0 pc lv [.int r9] m9) (hk5 : ∀ (v1 : Int32) (m0 : Mem), k5 v1 m0 = some (r9, m9) → Go Γ b (sg ad nt z) 0 0 5 [(0, .ref (ad 63)), (1, .int v1)] [] m0) (v1 : Int32) (s0 : Int32) (m0 : Mem) (hf : X10_added0_39 k5 v1 s0 m0 = some (r9, m9)) : Go Γ b (sg ad nt z) 0 0 39 [(0, .ref (ad 63)), (1, .int v1)] [.int s0] m0 := by
  refine g_istore_n X (lv' := [(2, .int s0), (0, .ref (ad 63)), (1, .int v1)]) dX10_added0_39 rfl (by decide) rfl ?_
  refine g_aload_n X 1 dX10_added0_40 rfl rfl ?_
  obtain ⟨m41, h41, hf⟩ := bv_i hf
  refine g_eVV X 63 9 [] kV_X10_196 (c_X10_next h41) dX10_added0_41 rfl rfl (sgN (by decide)) rfl (by decide) rfl rfl ⟨(Nat.le_of_ble_eq_true rfl), (Nat.le_of_ble_eq_true rfl)⟩ ⟨rfl, rfl⟩ ⟨(Nat.zero_le _), (Nat.zero_le _)⟩ (Nat.le_of_ble_eq_true rfl) ?_
  refine g_aload_n X 1 dX10_added0_44 rfl rfl ?_
  obtain ⟨r45, m45, h45, hf⟩ := bi_i hf
  refine g_eVI X 63 9 [] kV_X10_329 (c_X10_term0 h45) dX10_added0_45 rfl rfl (sgN (by decide)) rfl (by decide) rfl rfl ⟨(Nat.le_of_ble_eq_true rfl), (Nat.le_of_ble_eq_true rfl)⟩ ⟨rfl, rfl⟩ ⟨(Nat.zero_le _), (Nat.zero_le _)⟩ (Nat.le_of_ble_eq_true rfl) ?_
  refine g_istore_n X (lv' := [(3, .int r45), (2, .int s0), (0, .ref (ad 63)), (1, .int v1)]) dX10_added0_48 rfl (by decide) rfl ?_
  refine g_iload_n X 1 dX10_added0_49 rfl rfl ?_
  refine g_if_eq X (tgt := 59) dX10_added0_50 (by decide) (fun c50 => ?_) (fun c50 => ?_)
  · have hf := it c50 hf
    refine g_iload_n X 3 dX10_added0_59 rfl rfl ?_
    refine g_iload_n X 0 dX10_added0_60 rfl rfl ?_
    refine g_isub X dX10_added0_61 ?_
    refine g_pick [2] (lv' := [(0, .ref (ad 63))]) rfl ?_
    exact w_X10_added0_62 X hret hk5 (v1 - r45) m45 hf
  · have hf := ie c50 hf
    refine g_iload_n X 3 dX10_added0_53 rfl rfl ?_
    refine g_iload_n X 0 dX10_added0_54 rfl rfl ?_
    refine g_iadd X dX10_added0_55 ?_
    refine g_goto X (tgt := 62) dX10_added0_56 (by decide) ?_
    refine g_pick [2] (lv' := [(0, .ref (ad 63))]) rfl ?_
    exact w_X10_added0_62 X hret hk5 (v1 + r45) m45 hf
set_option maxRecDepth 100000 in
set_option maxHeartbeats 4000000 in
theorem w_X10_added0_23 {Γ : Ga} {b : Nat} {ad : Nat → Nat} {nt : Nat} {z : Nat → Nat} {k5 : Int32 → Mem → Option (Int32 × Mem)} {r9 : Int32} {m9 : Mem} (X : Cx Γ b cX10_added0 4 RX10 (some .int) rmX10_added0) (hret : ∀ (pc : Nat) (lv : List (Nat × Value)), decode cX10_added0 pc = .ok (.ireturn, 1) → narrow .int (.int r9) = .int r9 → Go Γ b (sg ad nt z) 0 0 pc lv [.int r9] m9) (hk5 : ∀ (v1 : Int32) (m0 : Mem), k5 v1 m0 = some (r9, m9) → Go Γ b (sg ad nt z) 0 0 5 [(0, .ref (ad 63)), (1, .int v1)] [] m0) (v1 : Int32) (m0 : Mem) (hf : X10_added0_23 k5 v1 m0 = some (r9, m9)) : Go Γ b (sg ad nt z) 0 0 23 [(0, .ref (ad 63)), (1, .int v1)] [] m0 := by
  refine g_aload_n X 0 dX10_added0_23 rfl rfl ?_
  refine g_getJ X 63 9 24 dX10_added0_24 (sgN (by decide)) rfl (by decide) rfl iw_X10 (by decide) rfl q_fl_X10_176 ?_
  refine g_ldc2 X dX10_added0_27 q_cl_X10_238 ?_
  refine g_lcmp X dX10_added0_30 ?_
  refine g_if_ne X (tgt := 38) dX10_added0_31 (by decide) (fun c31 => ?_) (fun c31 => ?_)
  · have hf := ie c31 hf
    refine g_iconst X (v := 0) dX10_added0_38 (by decide) ?_
    exact w_X10_added0_39 X hret hk5 v1 (0 : Int32) m0 hf
  · have hf := it c31 hf
    refine g_iconst X (v := 1) dX10_added0_34 (by decide) ?_
    refine g_goto X (tgt := 39) dX10_added0_35 (by decide) ?_
    exact w_X10_added0_39 X hret hk5 v1 (1 : Int32) m0 hf
set_option maxRecDepth 100000 in
set_option maxHeartbeats 4000000 in
theorem w_X10_added0_5 {Γ : Ga} {b : Nat} {ad : Nat → Nat} {nt : Nat} {z : Nat → Nat} {r9 : Int32} {m9 : Mem} (X : Cx Γ b cX10_added0 4 RX10 (some .int) rmX10_added0) (hret : ∀ (pc : Nat) (lv : List (Nat × Value)), decode cX10_added0 pc = .ok (.ireturn, 1) → narrow .int (.int r9) = .int r9 → Go Γ b (sg ad nt z) 0 0 pc lv [.int r9] m9) : ∀ (n : Nat) (v1 : Int32) (m0 : Mem), X10_added0_5 n v1 m0 = some (r9, m9) → Go Γ b (sg ad nt z) 0 0 5 [(0, .ref (ad 63)), (1, .int v1)] [] m0 := by
  intro n
  induction n with
  | zero =>
    intro v1 m0 hf
    cases hf
  | succ n ih =>
    intro v1 m0 hf
    refine g_aload_n X 0 dX10_added0_5 rfl rfl ?_
    refine g_bipush X (v := 43) dX10_added0_6 (by decide) ?_
    obtain ⟨r8, m8, h8, hf⟩ := bi_i hf
    refine g_eVI X 63 9 [.int (43 : Int32)] kV_X10_221 (c_X10_isSign h8) dX10_added0_8 rfl rfl (sgN (by decide)) rfl (by decide) rfl rfl ⟨(Nat.le_of_ble_eq_true rfl), (Nat.le_of_ble_eq_true rfl)⟩ ⟨rfl, rfl⟩ ⟨(Nat.zero_le _), (Nat.zero_le _)⟩ (Nat.le_of_ble_eq_true rfl) ?_
    refine g_if_ne X (tgt := 23) dX10_added0_11 (by decide) (fun c11 => ?_) (fun c11 => ?_)
    · have hf := ie c11 hf
      exact w_X10_added0_23 X hret ih v1 m8 hf
    · have hf := it c11 hf
      refine g_aload_n X 0 dX10_added0_14 rfl rfl ?_
      refine g_bipush X (v := 45) dX10_added0_15 (by decide) ?_
      obtain ⟨r17, m17, h17, hf⟩ := bi_i hf
      refine g_eVI X 63 9 [.int (45 : Int32)] kV_X10_221 (c_X10_isSign h17) dX10_added0_17 rfl rfl (sgN (by decide)) rfl (by decide) rfl rfl ⟨(Nat.le_of_ble_eq_true rfl), (Nat.le_of_ble_eq_true rfl)⟩ ⟨rfl, rfl⟩ ⟨(Nat.zero_le _), (Nat.zero_le _)⟩ (Nat.le_of_ble_eq_true rfl) ?_
      refine g_if_eq X (tgt := 66) dX10_added0_20 (by decide) (fun c20 => ?_) (fun c20 => ?_)
      · have hf := it c20 hf
        refine g_iload_n X 1 dX10_added0_66 rfl rfl ?_
        obtain ⟨rfl, rfl⟩ := lf2 hf
        exact hret 67 _ dX10_added0_67 rfl
      · have hf := ie c20 hf
        exact w_X10_added0_23 X hret ih v1 m17 hf
set_option maxRecDepth 100000 in
set_option maxHeartbeats 4000000 in
theorem c_X10_added0 {l : Launch} {G : GG} {b : Nat} {ad : Nat → Nat} {nt : Nat} {z : Nat → Nat} {m0 : Mem} {r9 : Int32} {m9 : Mem} (hf : X10_added0 m0 = some (r9, m9)) : MtI l yX10_added0 cX10_added0 4 (some .int) rmX10_added0 G b (sg ad nt z) m0 [.ref (ad 63)] (pEI r9 (sg ad nt z) m9) := by
  refine mtI_of (by decide) (Nat.le_of_ble_eq_true rfl) .int rfl (fun Γ hG X hnm hr => ?_)
  have hret : ∀ (pc : Nat) (lv : List (Nat × Value)), decode cX10_added0 pc = .ok (.ireturn, 1) → narrow .int (.int r9) = .int r9 → Go Γ b (sg ad nt z) 0 0 pc lv [.int r9] m9 := fun pc lv d hn => hr pc lv _ _ _ d ⟨rfl, rfl, rfl⟩ hn
  show Go Γ b (sg ad nt z) 0 0 0 [(0, .ref (ad 63))] [] m0
  refine g_aload_n X 0 dX10_added0_0 rfl rfl ?_
  obtain ⟨r1, m1, h1, hf⟩ := bi_i hf
  refine g_eVI X 63 9 [] kV_X10_329 (c_X10_term0 h1) dX10_added0_1 rfl rfl (sgN (by decide)) rfl (by decide) rfl rfl ⟨(Nat.le_of_ble_eq_true rfl), (Nat.le_of_ble_eq_true rfl)⟩ ⟨rfl, rfl⟩ ⟨(Nat.zero_le _), (Nat.zero_le _)⟩ (Nat.le_of_ble_eq_true rfl) ?_
  refine g_istore_n X (lv' := [(1, .int r1), (0, .ref (ad 63))]) dX10_added0_4 rfl (by decide) rfl ?_
  refine g_pick [1, 0] (lv' := [(0, .ref (ad 63)), (1, .int r1)]) rfl ?_
  exact w_X10_added0_5 X hret 10000 r1 m1 hf

theorem kV_X10_332 : wcV RX10 332 RX10 yX10_added0 cX10_added0 4 (some .int) 0 := ⟨q_ml_X10_332, q_im_yX10_added0, q_se_yX10_added0, q_in_X10, q_co_yX10_added0, by decide +kernel⟩

def X10_not0_93 (v1 : Int32) (s0 : Int32) (m0 : Mem) : Option (Int32 × Mem) :=
  bv (X10_next m0) fun m95 =>
  bi (X10_added0 m95) fun r99 m99 =>
  if s0 = 0 then
    if v1 = r99 then
      some ((1 : Int32), m99)
    else
      some ((0 : Int32), m99)
  else
    if r99 ≤ v1 then
      some ((0 : Int32), m99)
    else
      some ((1 : Int32), m99)
def X10_not0_77 (v1 : Int32) (m0 : Mem) : Option (Int32 × Mem) :=
  if (lg_cmp (m0.2 63 24) (60 : Int64)) = 0 then
    X10_not0_93 v1 (1 : Int32) m0
  else
    X10_not0_93 v1 (0 : Int32) m0
def X10_not0 (m0 : Mem) : Option (Int32 × Mem) :=
  bi (X10_isWord (110 : Int32) (111 : Int32) (116 : Int32) (0 : Int32) (0 : Int32) (0 : Int32) (0 : Int32) (0 : Int32) m0) fun r12 m12 =>
  if r12 = 0 then
    bi (X10_added0 m12) fun r53 m53 =>
    bi (X10_isSign (60 : Int32) m53) fun r60 m60 =>
    if r60 = 0 then
      bi (X10_isSign (61 : Int32) m60) fun r69 m69 =>
      if r69 = 0 then
        some (r53, m69)
      else
        X10_not0_77 r53 m69
    else
      X10_not0_77 r53 m60
  else
    bi (X10_opens m12) fun r19 m19 =>
    if r19 = 0 then
      some ((0 : Int32), m19)
    else
      bi (X10_not1 m19) fun r28 m28 =>
      if r28 = 0 then
        some ((1 : Int32), pI m28 63 25 ((m28.1 63 25) - (1 : Int32)))
      else
        some ((0 : Int32), pI m28 63 25 ((m28.1 63 25) - (1 : Int32)))
abbrev rmX10_not0 : Room := { frames := 37, cells := 0, slots := 0, locals := 816 }
set_option maxRecDepth 100000 in
set_option maxHeartbeats 4000000 in
theorem w_X10_not0_93 {Γ : Ga} {b : Nat} {ad : Nat → Nat} {nt : Nat} {z : Nat → Nat} {r9 : Int32} {m9 : Mem} (X : Cx Γ b cX10_not0 4 RX10 (some .int) rmX10_not0) (hret : ∀ (pc : Nat) (lv : List (Nat × Value)), decode cX10_not0 pc = .ok (.ireturn, 1) → narrow .int (.int r9) = .int r9 → Go Γ b (sg ad nt z) 0 0 pc lv [.int r9] m9) (v1 : Int32) (s0 : Int32) (m0 : Mem) (hf : X10_not0_93 v1 s0 m0 = some (r9, m9)) : Go Γ b (sg ad nt z) 0 0 93 [(0, .ref (ad 63)), (1, .int v1)] [.int s0] m0 := by
  refine g_istore_n X (lv' := [(2, .int s0), (0, .ref (ad 63)), (1, .int v1)]) dX10_not0_93 rfl (by decide) rfl ?_
  refine g_aload_n X 1 dX10_not0_94 rfl rfl ?_
  obtain ⟨m95, h95, hf⟩ := bv_i hf
  refine g_eVV X 63 9 [] kV_X10_196 (c_X10_next h95) dX10_not0_95 rfl rfl (sgN (by decide)) rfl (by decide) rfl rfl ⟨(Nat.le_of_ble_eq_true rfl), (Nat.le_of_ble_eq_true rfl)⟩ ⟨rfl, rfl⟩ ⟨(Nat.zero_le _), (Nat.zero_le _)⟩ (Nat.le_of_ble_eq_true rfl) ?_
  refine g_aload_n X 1 dX10_not0_98 rfl rfl ?_
  obtain ⟨r99, m99, h99, hf⟩ := bi_i hf
  refine g_eVI X 63 9 [] kV_X10_332 (c_X10_added0 h99) dX10_not0_99 rfl rfl (sgN (by decide)) rfl (by decide) rfl rfl ⟨(Nat.le_of_ble_eq_true rfl), (Nat.le_of_ble_eq_true rfl)⟩ ⟨rfl, rfl⟩ ⟨(Nat.zero_le _), (Nat.zero_le _)⟩ (Nat.le_of_ble_eq_true rfl) ?_
  refine g_istore_n X (lv' := [(3, .int r99), (2, .int s0), (0, .ref (ad 63)), (1, .int v1)]) dX10_not0_102 rfl (by decide) rfl ?_
  refine g_iload_n X 1 dX10_not0_103 rfl rfl ?_
  refine g_if_eq X (tgt := 115) dX10_not0_104 (by decide) (fun c104 => ?_) (fun c104 => ?_)
  · have hf := it c104 hf
    refine g_iload_n X 3 dX10_not0_115 rfl rfl ?_
    refine g_iload_n X 0 dX10_not0_116 rfl rfl ?_
    refine g_icmp_ne X (tgt := 124) dX10_not0_117 (by decide) (fun c117 => ?_) (fun c117 => ?_)
    · have hf := ie c117 hf
      refine g_iconst X (v := 0) dX10_not0_124 (by decide) ?_
      obtain ⟨rfl, rfl⟩ := lf2 hf
      exact hret 125 _ dX10_not0_125 rfl
    · have hf := it c117 hf
      refine g_iconst X (v := 1) dX10_not0_120 (by decide) ?_
      refine g_goto X (tgt := 125) dX10_not0_121 (by decide) ?_
      obtain ⟨rfl, rfl⟩ := lf2 hf
      exact hret 125 _ dX10_not0_125 rfl
  · have hf := ie c104 hf
    refine g_iload_n X 3 dX10_not0_107 rfl rfl ?_
    refine g_iload_n X 0 dX10_not0_108 rfl rfl ?_
    refine g_icmp_ge X (tgt := 124) dX10_not0_109 (by decide) (fun c109 => ?_) (fun c109 => ?_)
    · have hf := it c109 hf
      refine g_iconst X (v := 0) dX10_not0_124 (by decide) ?_
      obtain ⟨rfl, rfl⟩ := lf2 hf
      exact hret 125 _ dX10_not0_125 rfl
    · have hf := ie c109 hf
      refine g_goto X (tgt := 120) dX10_not0_112 (by decide) ?_
      refine g_iconst X (v := 1) dX10_not0_120 (by decide) ?_
      refine g_goto X (tgt := 125) dX10_not0_121 (by decide) ?_
      obtain ⟨rfl, rfl⟩ := lf2 hf
      exact hret 125 _ dX10_not0_125 rfl
set_option maxRecDepth 100000 in
set_option maxHeartbeats 4000000 in
theorem w_X10_not0_77 {Γ : Ga} {b : Nat} {ad : Nat → Nat} {nt : Nat} {z : Nat → Nat} {r9 : Int32} {m9 : Mem} (X : Cx Γ b cX10_not0 4 RX10 (some .int) rmX10_not0) (hret : ∀ (pc : Nat) (lv : List (Nat × Value)), decode cX10_not0 pc = .ok (.ireturn, 1) → narrow .int (.int r9) = .int r9 → Go Γ b (sg ad nt z) 0 0 pc lv [.int r9] m9) (v1 : Int32) (m0 : Mem) (hf : X10_not0_77 v1 m0 = some (r9, m9)) : Go Γ b (sg ad nt z) 0 0 77 [(0, .ref (ad 63)), (1, .int v1)] [] m0 := by
  refine g_aload_n X 0 dX10_not0_77 rfl rfl ?_
  refine g_getJ X 63 9 24 dX10_not0_78 (sgN (by decide)) rfl (by decide) rfl iw_X10 (by decide) rfl q_fl_X10_176 ?_
  refine g_ldc2 X dX10_not0_81 q_cl_X10_243 ?_
  refine g_lcmp X dX10_not0_84 ?_
  refine g_if_ne X (tgt := 92) dX10_not0_85 (by decide) (fun c85 => ?_) (fun c85 => ?_)
  · have hf := ie c85 hf
    refine g_iconst X (v := 0) dX10_not0_92 (by decide) ?_
    exact w_X10_not0_93 X hret v1 (0 : Int32) m0 hf
  · have hf := it c85 hf
    refine g_iconst X (v := 1) dX10_not0_88 (by decide) ?_
    refine g_goto X (tgt := 93) dX10_not0_89 (by decide) ?_
    exact w_X10_not0_93 X hret v1 (1 : Int32) m0 hf
set_option maxRecDepth 100000 in
set_option maxHeartbeats 4000000 in
theorem c_X10_not0 {l : Launch} {G : GG} {b : Nat} {ad : Nat → Nat} {nt : Nat} {z : Nat → Nat} {m0 : Mem} {r9 : Int32} {m9 : Mem} (hf : X10_not0 m0 = some (r9, m9)) : MtI l yX10_not0 cX10_not0 4 (some .int) rmX10_not0 G b (sg ad nt z) m0 [.ref (ad 63)] (pEI r9 (sg ad nt z) m9) := by
  refine mtI_of (by decide) (Nat.le_of_ble_eq_true rfl) .int rfl (fun Γ hG X hnm hr => ?_)
  have hret : ∀ (pc : Nat) (lv : List (Nat × Value)), decode cX10_not0 pc = .ok (.ireturn, 1) → narrow .int (.int r9) = .int r9 → Go Γ b (sg ad nt z) 0 0 pc lv [.int r9] m9 := fun pc lv d hn => hr pc lv _ _ _ d ⟨rfl, rfl, rfl⟩ hn
  show Go Γ b (sg ad nt z) 0 0 0 [(0, .ref (ad 63))] [] m0
  refine g_aload_n X 0 dX10_not0_0 rfl rfl ?_
  refine g_bipush X (v := 110) dX10_not0_1 (by decide) ?_
  refine g_bipush X (v := 111) dX10_not0_3 (by decide) ?_
  refine g_bipush X (v := 116) dX10_not0_5 (by decide) ?_
  refine g_iconst X (v := 0) dX10_not0_7 (by decide) ?_
  refine g_iconst X (v := 0) dX10_not0_8 (by decide) ?_
  refine g_iconst X (v := 0) dX10_not0_9 (by decide) ?_
  refine g_iconst X (v := 0) dX10_not0_10 (by decide) ?_
  refine g_iconst X (v := 0) dX10_not0_11 (by decide) ?_
  obtain ⟨r12, m12, h12, hf⟩ := bi_i hf
  refine g_eVI X 63 9 [.int (110 : Int32), .int (111 : Int32), .int (116 : Int32), .int (0 : Int32), .int (0 : Int32), .int (0 : Int32), .int (0 : Int32), .int (0 : Int32)] kV_X10_199 (c_X10_isWord h12) dX10_not0_12 rfl rfl (sgN (by decide)) rfl (by decide) rfl rfl ⟨(Nat.le_of_ble_eq_true rfl), (Nat.le_of_ble_eq_true rfl)⟩ ⟨rfl, rfl⟩ ⟨(Nat.zero_le _), (Nat.zero_le _)⟩ (Nat.le_of_ble_eq_true rfl) ?_
  refine g_if_eq X (tgt := 52) dX10_not0_15 (by decide) (fun c15 => ?_) (fun c15 => ?_)
  · have hf := it c15 hf
    refine g_aload_n X 0 dX10_not0_52 rfl rfl ?_
    obtain ⟨r53, m53, h53, hf⟩ := bi_i hf
    refine g_eVI X 63 9 [] kV_X10_332 (c_X10_added0 h53) dX10_not0_53 rfl rfl (sgN (by decide)) rfl (by decide) rfl rfl ⟨(Nat.le_of_ble_eq_true rfl), (Nat.le_of_ble_eq_true rfl)⟩ ⟨rfl, rfl⟩ ⟨(Nat.zero_le _), (Nat.zero_le _)⟩ (Nat.le_of_ble_eq_true rfl) ?_
    refine g_istore_n X (lv' := [(1, .int r53), (0, .ref (ad 63))]) dX10_not0_56 rfl (by decide) rfl ?_
    refine g_aload_n X 1 dX10_not0_57 rfl rfl ?_
    refine g_bipush X (v := 60) dX10_not0_58 (by decide) ?_
    obtain ⟨r60, m60, h60, hf⟩ := bi_i hf
    refine g_eVI X 63 9 [.int (60 : Int32)] kV_X10_221 (c_X10_isSign h60) dX10_not0_60 rfl rfl (sgN (by decide)) rfl (by decide) rfl rfl ⟨(Nat.le_of_ble_eq_true rfl), (Nat.le_of_ble_eq_true rfl)⟩ ⟨rfl, rfl⟩ ⟨(Nat.zero_le _), (Nat.zero_le _)⟩ (Nat.le_of_ble_eq_true rfl) ?_
    refine g_if_ne X (tgt := 77) dX10_not0_63 (by decide) (fun c63 => ?_) (fun c63 => ?_)
    · have hf := ie c63 hf
      refine g_pick [1, 0] (lv' := [(0, .ref (ad 63)), (1, .int r53)]) rfl ?_
      exact w_X10_not0_77 X hret r53 m60 hf
    · have hf := it c63 hf
      refine g_aload_n X 1 dX10_not0_66 rfl rfl ?_
      refine g_bipush X (v := 61) dX10_not0_67 (by decide) ?_
      obtain ⟨r69, m69, h69, hf⟩ := bi_i hf
      refine g_eVI X 63 9 [.int (61 : Int32)] kV_X10_221 (c_X10_isSign h69) dX10_not0_69 rfl rfl (sgN (by decide)) rfl (by decide) rfl rfl ⟨(Nat.le_of_ble_eq_true rfl), (Nat.le_of_ble_eq_true rfl)⟩ ⟨rfl, rfl⟩ ⟨(Nat.zero_le _), (Nat.zero_le _)⟩ (Nat.le_of_ble_eq_true rfl) ?_
      refine g_if_ne X (tgt := 77) dX10_not0_72 (by decide) (fun c72 => ?_) (fun c72 => ?_)
      · have hf := ie c72 hf
        refine g_pick [1, 0] (lv' := [(0, .ref (ad 63)), (1, .int r53)]) rfl ?_
        exact w_X10_not0_77 X hret r53 m69 hf
      · have hf := it c72 hf
        refine g_iload_n X 0 dX10_not0_75 rfl rfl ?_
        obtain ⟨rfl, rfl⟩ := lf2 hf
        exact hret 76 _ dX10_not0_76 rfl
  · have hf := ie c15 hf
    refine g_aload_n X 0 dX10_not0_18 rfl rfl ?_
    obtain ⟨r19, m19, h19, hf⟩ := bi_i hf
    refine g_eVI X 63 9 [] kV_X10_224 (c_X10_opens h19) dX10_not0_19 rfl rfl (sgN (by decide)) rfl (by decide) rfl rfl ⟨(Nat.le_of_ble_eq_true rfl), (Nat.le_of_ble_eq_true rfl)⟩ ⟨rfl, rfl⟩ ⟨(Nat.zero_le _), (Nat.zero_le _)⟩ (Nat.le_of_ble_eq_true rfl) ?_
    refine g_if_ne X (tgt := 27) dX10_not0_22 (by decide) (fun c22 => ?_) (fun c22 => ?_)
    · have hf := ie c22 hf
      refine g_aload_n X 0 dX10_not0_27 rfl rfl ?_
      obtain ⟨r28, m28, h28, hf⟩ := bi_i hf
      refine g_eVI X 63 9 [] kV_X10_317 (c_X10_not1 h28) dX10_not0_28 rfl rfl (sgN (by decide)) rfl (by decide) rfl rfl ⟨(Nat.le_of_ble_eq_true rfl), (Nat.le_of_ble_eq_true rfl)⟩ ⟨rfl, rfl⟩ ⟨(Nat.zero_le _), (Nat.zero_le _)⟩ (Nat.le_of_ble_eq_true rfl) ?_
      refine g_istore_n X (lv' := [(1, .int r28), (0, .ref (ad 63))]) dX10_not0_31 rfl (by decide) rfl ?_
      refine g_aload_n X 1 dX10_not0_32 rfl rfl ?_
      refine g_dup X dX10_not0_33 rfl ?_
      refine g_getI X 63 9 25 dX10_not0_34 (sgN (by decide)) rfl (by decide) rfl iw_X10 (by decide) rfl q_fl_X10_190 ?_
      refine g_iconst X (v := 1) dX10_not0_37 (by decide) ?_
      refine g_isub X dX10_not0_38 ?_
      refine g_putI X (tyf := tyX10) 63 9 25 dX10_not0_39 (sgN (by decide)) rfl (by decide) rfl iw_X10 (by decide) rfl q_fl_X10_190 tyX10_ok nmX10 rfl rfl rfl ?_
      refine g_iload_n X 0 dX10_not0_42 rfl rfl ?_
      refine g_if_ne X (tgt := 50) dX10_not0_43 (by decide) (fun c43 => ?_) (fun c43 => ?_)
      · have hf := ie c43 hf
        refine g_iconst X (v := 0) dX10_not0_50 (by decide) ?_
        obtain ⟨rfl, rfl⟩ := lf2 hf
        exact hret 51 _ dX10_not0_51 rfl
      · have hf := it c43 hf
        refine g_iconst X (v := 1) dX10_not0_46 (by decide) ?_
        refine g_goto X (tgt := 51) dX10_not0_47 (by decide) ?_
        obtain ⟨rfl, rfl⟩ := lf2 hf
        exact hret 51 _ dX10_not0_51 rfl
    · have hf := it c22 hf
      refine g_iconst X (v := 0) dX10_not0_25 (by decide) ?_
      obtain ⟨rfl, rfl⟩ := lf2 hf
      exact hret 26 _ dX10_not0_26 rfl

theorem kV_X10_335 : wcV RX10 335 RX10 yX10_not0 cX10_not0 4 (some .int) 0 := ⟨q_ml_X10_335, q_im_yX10_not0, q_se_yX10_not0, q_in_X10, q_co_yX10_not0, by decide +kernel⟩

def X10_both0_45 (k5 : Int32 → Mem → Option (Int32 × Mem)) (s0 : Int32) (m0 : Mem) : Option (Int32 × Mem) :=
  k5 s0 m0
def X10_both0_44 (k5 : Int32 → Mem → Option (Int32 × Mem)) (m0 : Mem) : Option (Int32 × Mem) :=
  X10_both0_45 k5 (0 : Int32) m0
def X10_both0_5 : Nat → Int32 → Mem → Option (Int32 × Mem)
  | 0, _, _ => none
  | n + 1, v1, m0 =>
    bi (X10_isWord (97 : Int32) (110 : Int32) (100 : Int32) (0 : Int32) (0 : Int32) (0 : Int32) (0 : Int32) (0 : Int32) m0) fun r17 m17 =>
    if r17 = 0 then
      some (v1, m17)
    else
      bv (X10_next m17) fun m24 =>
      bi (X10_not0 m24) fun r28 m28 =>
      if v1 = 0 then
        X10_both0_44 (X10_both0_5 n) m28
      else
        if r28 = 0 then
          X10_both0_44 (X10_both0_5 n) m28
        else
          X10_both0_45 (X10_both0_5 n) (1 : Int32) m28
def X10_both0 (m0 : Mem) : Option (Int32 × Mem) :=
  bi (X10_not0 m0) fun r1 m1 =>
  X10_both0_5 10000 r1 m1
abbrev rmX10_both0 : Room := { frames := 38, cells := 0, slots := 0, locals := 839 }
set_option maxRecDepth 100000 in
set_option maxHeartbeats 4000000 in
theorem w_X10_both0_45 {Γ : Ga} {b : Nat} {ad : Nat → Nat} {nt : Nat} {z : Nat → Nat} {k5 : Int32 → Mem → Option (Int32 × Mem)} {r9 : Int32} {m9 : Mem} (X : Cx Γ b cX10_both0 3 RX10 (some .int) rmX10_both0) (hret : ∀ (pc : Nat) (lv : List (Nat × Value)), decode cX10_both0 pc = .ok (.ireturn, 1) → narrow .int (.int r9) = .int r9 → Go Γ b (sg ad nt z) 0 0 pc lv [.int r9] m9) (hk5 : ∀ (v1 : Int32) (m0 : Mem), k5 v1 m0 = some (r9, m9) → Go Γ b (sg ad nt z) 0 0 5 [(0, .ref (ad 63)), (1, .int v1)] [] m0) (s0 : Int32) (m0 : Mem) (hf : X10_both0_45 k5 s0 m0 = some (r9, m9)) : Go Γ b (sg ad nt z) 0 0 45 [(0, .ref (ad 63))] [.int s0] m0 := by
  refine g_istore_n X (lv' := [(1, .int s0), (0, .ref (ad 63))]) dX10_both0_45 rfl (by decide) rfl ?_
  refine g_goto X (tgt := 5) dX10_both0_46 (by decide) ?_
  refine g_pick [1, 0] (lv' := [(0, .ref (ad 63)), (1, .int s0)]) rfl ?_
  exact hk5 s0 m0 hf
set_option maxRecDepth 100000 in
set_option maxHeartbeats 4000000 in
theorem w_X10_both0_44 {Γ : Ga} {b : Nat} {ad : Nat → Nat} {nt : Nat} {z : Nat → Nat} {k5 : Int32 → Mem → Option (Int32 × Mem)} {r9 : Int32} {m9 : Mem} (X : Cx Γ b cX10_both0 3 RX10 (some .int) rmX10_both0) (hret : ∀ (pc : Nat) (lv : List (Nat × Value)), decode cX10_both0 pc = .ok (.ireturn, 1) → narrow .int (.int r9) = .int r9 → Go Γ b (sg ad nt z) 0 0 pc lv [.int r9] m9) (hk5 : ∀ (v1 : Int32) (m0 : Mem), k5 v1 m0 = some (r9, m9) → Go Γ b (sg ad nt z) 0 0 5 [(0, .ref (ad 63)), (1, .int v1)] [] m0) (m0 : Mem) (hf : X10_both0_44 k5 m0 = some (r9, m9)) : Go Γ b (sg ad nt z) 0 0 44 [(0, .ref (ad 63))] [] m0 := by
  refine g_iconst X (v := 0) dX10_both0_44 (by decide) ?_
  exact w_X10_both0_45 X hret hk5 (0 : Int32) m0 hf
set_option maxRecDepth 100000 in
set_option maxHeartbeats 4000000 in
theorem w_X10_both0_5 {Γ : Ga} {b : Nat} {ad : Nat → Nat} {nt : Nat} {z : Nat → Nat} {r9 : Int32} {m9 : Mem} (X : Cx Γ b cX10_both0 3 RX10 (some .int) rmX10_both0) (hret : ∀ (pc : Nat) (lv : List (Nat × Value)), decode cX10_both0 pc = .ok (.ireturn, 1) → narrow .int (.int r9) = .int r9 → Go Γ b (sg ad nt z) 0 0 pc lv [.int r9] m9) : ∀ (n : Nat) (v1 : Int32) (m0 : Mem), X10_both0_5 n v1 m0 = some (r9, m9) → Go Γ b (sg ad nt z) 0 0 5 [(0, .ref (ad 63)), (1, .int v1)] [] m0 := by
  intro n
  induction n with
  | zero =>
    intro v1 m0 hf
    cases hf
  | succ n ih =>
    intro v1 m0 hf
    refine g_aload_n X 0 dX10_both0_5 rfl rfl ?_
    refine g_bipush X (v := 97) dX10_both0_6 (by decide) ?_
    refine g_bipush X (v := 110) dX10_both0_8 (by decide) ?_
    refine g_bipush X (v := 100) dX10_both0_10 (by decide) ?_
    refine g_iconst X (v := 0) dX10_both0_12 (by decide) ?_
    refine g_iconst X (v := 0) dX10_both0_13 (by decide) ?_
    refine g_iconst X (v := 0) dX10_both0_14 (by decide) ?_
    refine g_iconst X (v := 0) dX10_both0_15 (by decide) ?_
    refine g_iconst X (v := 0) dX10_both0_16 (by decide) ?_
    obtain ⟨r17, m17, h17, hf⟩ := bi_i hf
    refine g_eVI X 63 9 [.int (97 : Int32), .int (110 : Int32), .int (100 : Int32), .int (0 : Int32), .int (0 : Int32), .int (0 : Int32), .int (0 : Int32), .int (0 : Int32)] kV_X10_199 (c_X10_isWord h17) dX10_both0_17 rfl rfl (sgN (by decide)) rfl (by decide) rfl rfl ⟨(Nat.le_of_ble_eq_true rfl), (Nat.le_of_ble_eq_true rfl)⟩ ⟨rfl, rfl⟩ ⟨(Nat.zero_le _), (Nat.zero_le _)⟩ (Nat.le_of_ble_eq_true rfl) ?_
    refine g_if_eq X (tgt := 49) dX10_both0_20 (by decide) (fun c20 => ?_) (fun c20 => ?_)
    · have hf := it c20 hf
      refine g_iload_n X 1 dX10_both0_49 rfl rfl ?_
      obtain ⟨rfl, rfl⟩ := lf2 hf
      exact hret 50 _ dX10_both0_50 rfl
    · have hf := ie c20 hf
      refine g_aload_n X 0 dX10_both0_23 rfl rfl ?_
      obtain ⟨m24, h24, hf⟩ := bv_i hf
      refine g_eVV X 63 9 [] kV_X10_196 (c_X10_next h24) dX10_both0_24 rfl rfl (sgN (by decide)) rfl (by decide) rfl rfl ⟨(Nat.le_of_ble_eq_true rfl), (Nat.le_of_ble_eq_true rfl)⟩ ⟨rfl, rfl⟩ ⟨(Nat.zero_le _), (Nat.zero_le _)⟩ (Nat.le_of_ble_eq_true rfl) ?_
      refine g_aload_n X 0 dX10_both0_27 rfl rfl ?_
      obtain ⟨r28, m28, h28, hf⟩ := bi_i hf
      refine g_eVI X 63 9 [] kV_X10_335 (c_X10_not0 h28) dX10_both0_28 rfl rfl (sgN (by decide)) rfl (by decide) rfl rfl ⟨(Nat.le_of_ble_eq_true rfl), (Nat.le_of_ble_eq_true rfl)⟩ ⟨rfl, rfl⟩ ⟨(Nat.zero_le _), (Nat.zero_le _)⟩ (Nat.le_of_ble_eq_true rfl) ?_
      refine g_istore_n X (lv' := [(2, .int r28), (0, .ref (ad 63)), (1, .int v1)]) dX10_both0_31 rfl (by decide) rfl ?_
      refine g_iload_n X 2 dX10_both0_32 rfl rfl ?_
      refine g_if_eq X (tgt := 44) dX10_both0_33 (by decide) (fun c33 => ?_) (fun c33 => ?_)
      · have hf := it c33 hf
        refine g_pick [1] (lv' := [(0, .ref (ad 63))]) rfl ?_
        exact w_X10_both0_44 X hret ih m28 hf
      · have hf := ie c33 hf
        refine g_iload_n X 0 dX10_both0_36 rfl rfl ?_
        refine g_if_eq X (tgt := 44) dX10_both0_37 (by decide) (fun c37 => ?_) (fun c37 => ?_)
        · have hf := it c37 hf
          refine g_pick [1] (lv' := [(0, .ref (ad 63))]) rfl ?_
          exact w_X10_both0_44 X hret ih m28 hf
        · have hf := ie c37 hf
          refine g_iconst X (v := 1) dX10_both0_40 (by decide) ?_
          refine g_goto X (tgt := 45) dX10_both0_41 (by decide) ?_
          refine g_pick [1] (lv' := [(0, .ref (ad 63))]) rfl ?_
          exact w_X10_both0_45 X hret ih (1 : Int32) m28 hf
set_option maxRecDepth 100000 in
set_option maxHeartbeats 4000000 in
theorem c_X10_both0 {l : Launch} {G : GG} {b : Nat} {ad : Nat → Nat} {nt : Nat} {z : Nat → Nat} {m0 : Mem} {r9 : Int32} {m9 : Mem} (hf : X10_both0 m0 = some (r9, m9)) : MtI l yX10_both0 cX10_both0 3 (some .int) rmX10_both0 G b (sg ad nt z) m0 [.ref (ad 63)] (pEI r9 (sg ad nt z) m9) := by
  refine mtI_of (by decide) (Nat.le_of_ble_eq_true rfl) .int rfl (fun Γ hG X hnm hr => ?_)
  have hret : ∀ (pc : Nat) (lv : List (Nat × Value)), decode cX10_both0 pc = .ok (.ireturn, 1) → narrow .int (.int r9) = .int r9 → Go Γ b (sg ad nt z) 0 0 pc lv [.int r9] m9 := fun pc lv d hn => hr pc lv _ _ _ d ⟨rfl, rfl, rfl⟩ hn
  show Go Γ b (sg ad nt z) 0 0 0 [(0, .ref (ad 63))] [] m0
  refine g_aload_n X 0 dX10_both0_0 rfl rfl ?_
  obtain ⟨r1, m1, h1, hf⟩ := bi_i hf
  refine g_eVI X 63 9 [] kV_X10_335 (c_X10_not0 h1) dX10_both0_1 rfl rfl (sgN (by decide)) rfl (by decide) rfl rfl ⟨(Nat.le_of_ble_eq_true rfl), (Nat.le_of_ble_eq_true rfl)⟩ ⟨rfl, rfl⟩ ⟨(Nat.zero_le _), (Nat.zero_le _)⟩ (Nat.le_of_ble_eq_true rfl) ?_
  refine g_istore_n X (lv' := [(1, .int r1), (0, .ref (ad 63))]) dX10_both0_4 rfl (by decide) rfl ?_
  refine g_pick [1, 0] (lv' := [(0, .ref (ad 63)), (1, .int r1)]) rfl ?_
  exact w_X10_both0_5 X hret 10000 r1 m1 hf

theorem kV_X10_338 : wcV RX10 338 RX10 yX10_both0 cX10_both0 3 (some .int) 0 := ⟨q_ml_X10_338, q_im_yX10_both0, q_se_yX10_both0, q_in_X10, q_co_yX10_both0, by decide +kernel⟩

def X10_either0_44 (k5 : Int32 → Mem → Option (Int32 × Mem)) (s0 : Int32) (m0 : Mem) : Option (Int32 × Mem) :=
  k5 s0 m0
def X10_either0_39 (k5 : Int32 → Mem → Option (Int32 × Mem)) (m0 : Mem) : Option (Int32 × Mem) :=
  X10_either0_44 k5 (1 : Int32) m0
def X10_either0_5 : Nat → Int32 → Mem → Option (Int32 × Mem)
  | 0, _, _ => none
  | n + 1, v1, m0 =>
    bi (X10_isWord (111 : Int32) (114 : Int32) (0 : Int32) (0 : Int32) (0 : Int32) (0 : Int32) (0 : Int32) (0 : Int32) m0) fun r16 m16 =>
    if r16 = 0 then
      some (v1, m16)
    else
      bv (X10_next m16) fun m23 =>
      bi (X10_both0 m23) fun r27 m27 =>
      if v1 = 0 then
        if r27 = 0 then
          X10_either0_44 (X10_either0_5 n) (0 : Int32) m27
        else
          X10_either0_39 (X10_either0_5 n) m27
      else
        X10_either0_39 (X10_either0_5 n) m27
def X10_either0 (m0 : Mem) : Option (Int32 × Mem) :=
  bi (X10_both0 m0) fun r1 m1 =>
  X10_either0_5 10000 r1 m1
abbrev rmX10_either0 : Room := { frames := 39, cells := 0, slots := 0, locals := 861 }
set_option maxRecDepth 100000 in
set_option maxHeartbeats 4000000 in
theorem w_X10_either0_44 {Γ : Ga} {b : Nat} {ad : Nat → Nat} {nt : Nat} {z : Nat → Nat} {k5 : Int32 → Mem → Option (Int32 × Mem)} {r9 : Int32} {m9 : Mem} (X : Cx Γ b cX10_either0 3 RX10 (some .int) rmX10_either0) (hret : ∀ (pc : Nat) (lv : List (Nat × Value)), decode cX10_either0 pc = .ok (.ireturn, 1) → narrow .int (.int r9) = .int r9 → Go Γ b (sg ad nt z) 0 0 pc lv [.int r9] m9) (hk5 : ∀ (v1 : Int32) (m0 : Mem), k5 v1 m0 = some (r9, m9) → Go Γ b (sg ad nt z) 0 0 5 [(0, .ref (ad 63)), (1, .int v1)] [] m0) (s0 : Int32) (m0 : Mem) (hf : X10_either0_44 k5 s0 m0 = some (r9, m9)) : Go Γ b (sg ad nt z) 0 0 44 [(0, .ref (ad 63))] [.int s0] m0 := by
  refine g_istore_n X (lv' := [(1, .int s0), (0, .ref (ad 63))]) dX10_either0_44 rfl (by decide) rfl ?_
  refine g_goto X (tgt := 5) dX10_either0_45 (by decide) ?_
  refine g_pick [1, 0] (lv' := [(0, .ref (ad 63)), (1, .int s0)]) rfl ?_
  exact hk5 s0 m0 hf
set_option maxRecDepth 100000 in
set_option maxHeartbeats 4000000 in
theorem w_X10_either0_39 {Γ : Ga} {b : Nat} {ad : Nat → Nat} {nt : Nat} {z : Nat → Nat} {k5 : Int32 → Mem → Option (Int32 × Mem)} {r9 : Int32} {m9 : Mem} (X : Cx Γ b cX10_either0 3 RX10 (some .int) rmX10_either0) (hret : ∀ (pc : Nat) (lv : List (Nat × Value)), decode cX10_either0 pc = .ok (.ireturn, 1) → narrow .int (.int r9) = .int r9 → Go Γ b (sg ad nt z) 0 0 pc lv [.int r9] m9) (hk5 : ∀ (v1 : Int32) (m0 : Mem), k5 v1 m0 = some (r9, m9) → Go Γ b (sg ad nt z) 0 0 5 [(0, .ref (ad 63)), (1, .int v1)] [] m0) (m0 : Mem) (hf : X10_either0_39 k5 m0 = some (r9, m9)) : Go Γ b (sg ad nt z) 0 0 39 [(0, .ref (ad 63))] [] m0 := by
  refine g_iconst X (v := 1) dX10_either0_39 (by decide) ?_
  refine g_goto X (tgt := 44) dX10_either0_40 (by decide) ?_
  exact w_X10_either0_44 X hret hk5 (1 : Int32) m0 hf
set_option maxRecDepth 100000 in
set_option maxHeartbeats 4000000 in
theorem w_X10_either0_5 {Γ : Ga} {b : Nat} {ad : Nat → Nat} {nt : Nat} {z : Nat → Nat} {r9 : Int32} {m9 : Mem} (X : Cx Γ b cX10_either0 3 RX10 (some .int) rmX10_either0) (hret : ∀ (pc : Nat) (lv : List (Nat × Value)), decode cX10_either0 pc = .ok (.ireturn, 1) → narrow .int (.int r9) = .int r9 → Go Γ b (sg ad nt z) 0 0 pc lv [.int r9] m9) : ∀ (n : Nat) (v1 : Int32) (m0 : Mem), X10_either0_5 n v1 m0 = some (r9, m9) → Go Γ b (sg ad nt z) 0 0 5 [(0, .ref (ad 63)), (1, .int v1)] [] m0 := by
  intro n
  induction n with
  | zero =>
    intro v1 m0 hf
    cases hf
  | succ n ih =>
    intro v1 m0 hf
    refine g_aload_n X 0 dX10_either0_5 rfl rfl ?_
    refine g_bipush X (v := 111) dX10_either0_6 (by decide) ?_
    refine g_bipush X (v := 114) dX10_either0_8 (by decide) ?_
    refine g_iconst X (v := 0) dX10_either0_10 (by decide) ?_
    refine g_iconst X (v := 0) dX10_either0_11 (by decide) ?_
    refine g_iconst X (v := 0) dX10_either0_12 (by decide) ?_
    refine g_iconst X (v := 0) dX10_either0_13 (by decide) ?_
    refine g_iconst X (v := 0) dX10_either0_14 (by decide) ?_
    refine g_iconst X (v := 0) dX10_either0_15 (by decide) ?_
    obtain ⟨r16, m16, h16, hf⟩ := bi_i hf
    refine g_eVI X 63 9 [.int (111 : Int32), .int (114 : Int32), .int (0 : Int32), .int (0 : Int32), .int (0 : Int32), .int (0 : Int32), .int (0 : Int32), .int (0 : Int32)] kV_X10_199 (c_X10_isWord h16) dX10_either0_16 rfl rfl (sgN (by decide)) rfl (by decide) rfl rfl ⟨(Nat.le_of_ble_eq_true rfl), (Nat.le_of_ble_eq_true rfl)⟩ ⟨rfl, rfl⟩ ⟨(Nat.zero_le _), (Nat.zero_le _)⟩ (Nat.le_of_ble_eq_true rfl) ?_
    refine g_if_eq X (tgt := 48) dX10_either0_19 (by decide) (fun c19 => ?_) (fun c19 => ?_)
    · have hf := it c19 hf
      refine g_iload_n X 1 dX10_either0_48 rfl rfl ?_
      obtain ⟨rfl, rfl⟩ := lf2 hf
      exact hret 49 _ dX10_either0_49 rfl
    · have hf := ie c19 hf
      refine g_aload_n X 0 dX10_either0_22 rfl rfl ?_
      obtain ⟨m23, h23, hf⟩ := bv_i hf
      refine g_eVV X 63 9 [] kV_X10_196 (c_X10_next h23) dX10_either0_23 rfl rfl (sgN (by decide)) rfl (by decide) rfl rfl ⟨(Nat.le_of_ble_eq_true rfl), (Nat.le_of_ble_eq_true rfl)⟩ ⟨rfl, rfl⟩ ⟨(Nat.zero_le _), (Nat.zero_le _)⟩ (Nat.le_of_ble_eq_true rfl) ?_
      refine g_aload_n X 0 dX10_either0_26 rfl rfl ?_
      obtain ⟨r27, m27, h27, hf⟩ := bi_i hf
      refine g_eVI X 63 9 [] kV_X10_338 (c_X10_both0 h27) dX10_either0_27 rfl rfl (sgN (by decide)) rfl (by decide) rfl rfl ⟨(Nat.le_of_ble_eq_true rfl), (Nat.le_of_ble_eq_true rfl)⟩ ⟨rfl, rfl⟩ ⟨(Nat.zero_le _), (Nat.zero_le _)⟩ (Nat.le_of_ble_eq_true rfl) ?_
      refine g_istore_n X (lv' := [(2, .int r27), (0, .ref (ad 63)), (1, .int v1)]) dX10_either0_30 rfl (by decide) rfl ?_
      refine g_iload_n X 2 dX10_either0_31 rfl rfl ?_
      refine g_if_ne X (tgt := 39) dX10_either0_32 (by decide) (fun c32 => ?_) (fun c32 => ?_)
      · have hf := ie c32 hf
        refine g_pick [1] (lv' := [(0, .ref (ad 63))]) rfl ?_
        exact w_X10_either0_39 X hret ih m27 hf
      · have hf := it c32 hf
        refine g_iload_n X 0 dX10_either0_35 rfl rfl ?_
        refine g_if_eq X (tgt := 43) dX10_either0_36 (by decide) (fun c36 => ?_) (fun c36 => ?_)
        · have hf := it c36 hf
          refine g_iconst X (v := 0) dX10_either0_43 (by decide) ?_
          refine g_pick [1] (lv' := [(0, .ref (ad 63))]) rfl ?_
          exact w_X10_either0_44 X hret ih (0 : Int32) m27 hf
        · have hf := ie c36 hf
          refine g_pick [1] (lv' := [(0, .ref (ad 63))]) rfl ?_
          exact w_X10_either0_39 X hret ih m27 hf
set_option maxRecDepth 100000 in
set_option maxHeartbeats 4000000 in
theorem c_X10_either0 {l : Launch} {G : GG} {b : Nat} {ad : Nat → Nat} {nt : Nat} {z : Nat → Nat} {m0 : Mem} {r9 : Int32} {m9 : Mem} (hf : X10_either0 m0 = some (r9, m9)) : MtI l yX10_either0 cX10_either0 3 (some .int) rmX10_either0 G b (sg ad nt z) m0 [.ref (ad 63)] (pEI r9 (sg ad nt z) m9) := by
  refine mtI_of (by decide) (Nat.le_of_ble_eq_true rfl) .int rfl (fun Γ hG X hnm hr => ?_)
  have hret : ∀ (pc : Nat) (lv : List (Nat × Value)), decode cX10_either0 pc = .ok (.ireturn, 1) → narrow .int (.int r9) = .int r9 → Go Γ b (sg ad nt z) 0 0 pc lv [.int r9] m9 := fun pc lv d hn => hr pc lv _ _ _ d ⟨rfl, rfl, rfl⟩ hn
  show Go Γ b (sg ad nt z) 0 0 0 [(0, .ref (ad 63))] [] m0
  refine g_aload_n X 0 dX10_either0_0 rfl rfl ?_
  obtain ⟨r1, m1, h1, hf⟩ := bi_i hf
  refine g_eVI X 63 9 [] kV_X10_338 (c_X10_both0 h1) dX10_either0_1 rfl rfl (sgN (by decide)) rfl (by decide) rfl rfl ⟨(Nat.le_of_ble_eq_true rfl), (Nat.le_of_ble_eq_true rfl)⟩ ⟨rfl, rfl⟩ ⟨(Nat.zero_le _), (Nat.zero_le _)⟩ (Nat.le_of_ble_eq_true rfl) ?_
  refine g_istore_n X (lv' := [(1, .int r1), (0, .ref (ad 63))]) dX10_either0_4 rfl (by decide) rfl ?_
  refine g_pick [1, 0] (lv' := [(0, .ref (ad 63)), (1, .int r1)]) rfl ?_
  exact w_X10_either0_5 X hret 10000 r1 m1 hf

theorem kV_X10_341 : wcV RX10 341 RX10 yX10_either0 cX10_either0 3 (some .int) 0 := ⟨q_ml_X10_341, q_im_yX10_either0, q_se_yX10_either0, q_in_X10, q_co_yX10_either0, by decide +kernel⟩

def X10_part_48 (v2 : Int32) (m0 : Mem) : Option (Int32 × Mem) :=
  if (m0.1 63 26) = 0 then
    bv (X10_next m0) fun m56 =>
    some (v2, m56)
  else
    some (v2, m0)
def X10_part_34 (s0 : Int32) (m0 : Mem) : Option (Int32 × Mem) :=
  bi (X10_isSign (59 : Int32) m0) fun r38 m38 =>
  if r38 = 0 then
    bv (X10_fail m38) fun m45 =>
    X10_part_48 s0 m45
  else
    X10_part_48 s0 m38
def X10_part_19 (m0 : Mem) : Option (Int32 × Mem) :=
  if (m0.1 63 26) = 0 then
    bi (X10_either0 m0) fun r31 m31 =>
    X10_part_34 r31 m31
  else
    X10_part_34 (0 : Int32) m0
def X10_part_8 (m0 : Mem) : Option (Int32 × Mem) :=
  if (m0.1 63 26) = 0 then
    bv (X10_next m0) fun m16 =>
    X10_part_19 m16
  else
    X10_part_19 m0
def X10_part (p0 : Int32) (m0 : Mem) : Option (Int32 × Mem) :=
  if p0 = 0 then
    bv (X10_fail m0) fun m5 =>
    X10_part_8 m5
  else
    X10_part_8 m0
abbrev rmX10_part : Room := { frames := 40, cells := 0, slots := 0, locals := 883 }
set_option maxRecDepth 100000 in
set_option maxHeartbeats 4000000 in
theorem w_X10_part_48 {Γ : Ga} {b : Nat} {ad : Nat → Nat} {nt : Nat} {z : Nat → Nat} {r9 : Int32} {m9 : Mem} (X : Cx Γ b cX10_part 3 RX10 (some .int) rmX10_part) (hret : ∀ (pc : Nat) (lv : List (Nat × Value)), decode cX10_part pc = .ok (.ireturn, 1) → narrow .int (.int r9) = .int r9 → Go Γ b (sg ad nt z) 0 0 pc lv [.int r9] m9) (v2 : Int32) (m0 : Mem) (hf : X10_part_48 v2 m0 = some (r9, m9)) : Go Γ b (sg ad nt z) 0 0 48 [(0, .ref (ad 63)), (2, .int v2)] [] m0 := by
  refine g_aload_n X 0 dX10_part_48 rfl rfl ?_
  refine g_getI X 63 9 26 dX10_part_49 (sgN (by decide)) rfl (by decide) rfl iw_X10 (by decide) rfl q_fl_X10_180 ?_
  refine g_if_ne X (tgt := 59) dX10_part_52 (by decide) (fun c52 => ?_) (fun c52 => ?_)
  · have hf := ie c52 hf
    refine g_iload_n X 1 dX10_part_59 rfl rfl ?_
    obtain ⟨rfl, rfl⟩ := lf2 hf
    exact hret 60 _ dX10_part_60 rfl
  · have hf := it c52 hf
    refine g_aload_n X 0 dX10_part_55 rfl rfl ?_
    obtain ⟨m56, h56, hf⟩ := bv_i hf
    refine g_eVV X 63 9 [] kV_X10_196 (c_X10_next h56) dX10_part_56 rfl rfl (sgN (by decide)) rfl (by decide) rfl rfl ⟨(Nat.le_of_ble_eq_true rfl), (Nat.le_of_ble_eq_true rfl)⟩ ⟨rfl, rfl⟩ ⟨(Nat.zero_le _), (Nat.zero_le _)⟩ (Nat.le_of_ble_eq_true rfl) ?_
    refine g_iload_n X 1 dX10_part_59 rfl rfl ?_
    obtain ⟨rfl, rfl⟩ := lf2 hf
    exact hret 60 _ dX10_part_60 rfl
set_option maxRecDepth 100000 in
set_option maxHeartbeats 4000000 in
theorem w_X10_part_34 {Γ : Ga} {b : Nat} {ad : Nat → Nat} {nt : Nat} {z : Nat → Nat} {r9 : Int32} {m9 : Mem} (X : Cx Γ b cX10_part 3 RX10 (some .int) rmX10_part) (hret : ∀ (pc : Nat) (lv : List (Nat × Value)), decode cX10_part pc = .ok (.ireturn, 1) → narrow .int (.int r9) = .int r9 → Go Γ b (sg ad nt z) 0 0 pc lv [.int r9] m9) (s0 : Int32) (m0 : Mem) (hf : X10_part_34 s0 m0 = some (r9, m9)) : Go Γ b (sg ad nt z) 0 0 34 [(0, .ref (ad 63))] [.int s0] m0 := by
  refine g_istore_n X (lv' := [(2, .int s0), (0, .ref (ad 63))]) dX10_part_34 rfl (by decide) rfl ?_
  refine g_aload_n X 1 dX10_part_35 rfl rfl ?_
  refine g_bipush X (v := 59) dX10_part_36 (by decide) ?_
  obtain ⟨r38, m38, h38, hf⟩ := bi_i hf
  refine g_eVI X 63 9 [.int (59 : Int32)] kV_X10_221 (c_X10_isSign h38) dX10_part_38 rfl rfl (sgN (by decide)) rfl (by decide) rfl rfl ⟨(Nat.le_of_ble_eq_true rfl), (Nat.le_of_ble_eq_true rfl)⟩ ⟨rfl, rfl⟩ ⟨(Nat.zero_le _), (Nat.zero_le _)⟩ (Nat.le_of_ble_eq_true rfl) ?_
  refine g_if_ne X (tgt := 48) dX10_part_41 (by decide) (fun c41 => ?_) (fun c41 => ?_)
  · have hf := ie c41 hf
    refine g_pick [1, 0] (lv' := [(0, .ref (ad 63)), (2, .int s0)]) rfl ?_
    exact w_X10_part_48 X hret s0 m38 hf
  · have hf := it c41 hf
    refine g_aload_n X 1 dX10_part_44 rfl rfl ?_
    obtain ⟨m45, h45, hf⟩ := bv_i hf
    refine g_eVV X 63 9 [] kV_X10_193 (c_X10_fail h45) dX10_part_45 rfl rfl (sgN (by decide)) rfl (by decide) rfl rfl ⟨(Nat.le_of_ble_eq_true rfl), (Nat.le_of_ble_eq_true rfl)⟩ ⟨rfl, rfl⟩ ⟨(Nat.zero_le _), (Nat.zero_le _)⟩ (Nat.le_of_ble_eq_true rfl) ?_
    refine g_pick [1, 0] (lv' := [(0, .ref (ad 63)), (2, .int s0)]) rfl ?_
    exact w_X10_part_48 X hret s0 m45 hf
set_option maxRecDepth 100000 in
set_option maxHeartbeats 4000000 in
theorem w_X10_part_19 {Γ : Ga} {b : Nat} {ad : Nat → Nat} {nt : Nat} {z : Nat → Nat} {r9 : Int32} {m9 : Mem} (X : Cx Γ b cX10_part 3 RX10 (some .int) rmX10_part) (hret : ∀ (pc : Nat) (lv : List (Nat × Value)), decode cX10_part pc = .ok (.ireturn, 1) → narrow .int (.int r9) = .int r9 → Go Γ b (sg ad nt z) 0 0 pc lv [.int r9] m9) (m0 : Mem) (hf : X10_part_19 m0 = some (r9, m9)) : Go Γ b (sg ad nt z) 0 0 19 [(0, .ref (ad 63))] [] m0 := by
  refine g_aload_n X 0 dX10_part_19 rfl rfl ?_
  refine g_getI X 63 9 26 dX10_part_20 (sgN (by decide)) rfl (by decide) rfl iw_X10 (by decide) rfl q_fl_X10_180 ?_
  refine g_if_eq X (tgt := 30) dX10_part_23 (by decide) (fun c23 => ?_) (fun c23 => ?_)
  · have hf := it c23 hf
    refine g_aload_n X 0 dX10_part_30 rfl rfl ?_
    obtain ⟨r31, m31, h31, hf⟩ := bi_i hf
    refine g_eVI X 63 9 [] kV_X10_341 (c_X10_either0 h31) dX10_part_31 rfl rfl (sgN (by decide)) rfl (by decide) rfl rfl ⟨(Nat.le_of_ble_eq_true rfl), (Nat.le_of_ble_eq_true rfl)⟩ ⟨rfl, rfl⟩ ⟨(Nat.zero_le _), (Nat.zero_le _)⟩ (Nat.le_of_ble_eq_true rfl) ?_
    exact w_X10_part_34 X hret r31 m31 hf
  · have hf := ie c23 hf
    refine g_iconst X (v := 0) dX10_part_26 (by decide) ?_
    refine g_goto X (tgt := 34) dX10_part_27 (by decide) ?_
    exact w_X10_part_34 X hret (0 : Int32) m0 hf
set_option maxRecDepth 100000 in
set_option maxHeartbeats 4000000 in
theorem w_X10_part_8 {Γ : Ga} {b : Nat} {ad : Nat → Nat} {nt : Nat} {z : Nat → Nat} {r9 : Int32} {m9 : Mem} (X : Cx Γ b cX10_part 3 RX10 (some .int) rmX10_part) (hret : ∀ (pc : Nat) (lv : List (Nat × Value)), decode cX10_part pc = .ok (.ireturn, 1) → narrow .int (.int r9) = .int r9 → Go Γ b (sg ad nt z) 0 0 pc lv [.int r9] m9) (m0 : Mem) (hf : X10_part_8 m0 = some (r9, m9)) : Go Γ b (sg ad nt z) 0 0 8 [(0, .ref (ad 63))] [] m0 := by
  refine g_aload_n X 0 dX10_part_8 rfl rfl ?_
  refine g_getI X 63 9 26 dX10_part_9 (sgN (by decide)) rfl (by decide) rfl iw_X10 (by decide) rfl q_fl_X10_180 ?_
  refine g_if_ne X (tgt := 19) dX10_part_12 (by decide) (fun c12 => ?_) (fun c12 => ?_)
  · have hf := ie c12 hf
    exact w_X10_part_19 X hret m0 hf
  · have hf := it c12 hf
    refine g_aload_n X 0 dX10_part_15 rfl rfl ?_
    obtain ⟨m16, h16, hf⟩ := bv_i hf
    refine g_eVV X 63 9 [] kV_X10_196 (c_X10_next h16) dX10_part_16 rfl rfl (sgN (by decide)) rfl (by decide) rfl rfl ⟨(Nat.le_of_ble_eq_true rfl), (Nat.le_of_ble_eq_true rfl)⟩ ⟨rfl, rfl⟩ ⟨(Nat.zero_le _), (Nat.zero_le _)⟩ (Nat.le_of_ble_eq_true rfl) ?_
    exact w_X10_part_19 X hret m16 hf
set_option maxRecDepth 100000 in
set_option maxHeartbeats 4000000 in
theorem c_X10_part {l : Launch} {G : GG} {b : Nat} {ad : Nat → Nat} {nt : Nat} {z : Nat → Nat} {p0 : Int32} {m0 : Mem} {r9 : Int32} {m9 : Mem} (hf : X10_part p0 m0 = some (r9, m9)) : MtI l yX10_part cX10_part 3 (some .int) rmX10_part G b (sg ad nt z) m0 [.ref (ad 63), .int p0] (pEI r9 (sg ad nt z) m9) := by
  refine mtI_of (by decide) (Nat.le_of_ble_eq_true rfl) .int rfl (fun Γ hG X hnm hr => ?_)
  have hret : ∀ (pc : Nat) (lv : List (Nat × Value)), decode cX10_part pc = .ok (.ireturn, 1) → narrow .int (.int r9) = .int r9 → Go Γ b (sg ad nt z) 0 0 pc lv [.int r9] m9 := fun pc lv d hn => hr pc lv _ _ _ d ⟨rfl, rfl, rfl⟩ hn
  show Go Γ b (sg ad nt z) 0 0 0 [(0, .ref (ad 63)), (1, .int p0)] [] m0
  refine g_iload_n X 1 dX10_part_0 rfl rfl ?_
  refine g_if_ne X (tgt := 8) dX10_part_1 (by decide) (fun c1 => ?_) (fun c1 => ?_)
  · have hf := ie c1 hf
    refine g_pick [0] (lv' := [(0, .ref (ad 63))]) rfl ?_
    exact w_X10_part_8 X hret m0 hf
  · have hf := it c1 hf
    refine g_aload_n X 0 dX10_part_4 rfl rfl ?_
    obtain ⟨m5, h5, hf⟩ := bv_i hf
    refine g_eVV X 63 9 [] kV_X10_193 (c_X10_fail h5) dX10_part_5 rfl rfl (sgN (by decide)) rfl (by decide) rfl rfl ⟨(Nat.le_of_ble_eq_true rfl), (Nat.le_of_ble_eq_true rfl)⟩ ⟨rfl, rfl⟩ ⟨(Nat.zero_le _), (Nat.zero_le _)⟩ (Nat.le_of_ble_eq_true rfl) ?_
    refine g_pick [0] (lv' := [(0, .ref (ad 63))]) rfl ?_
    exact w_X10_part_8 X hret m5 hf

theorem kV_X10_344 : wcV RX10 344 RX10 yX10_part cX10_part 3 (some .int) 1 := ⟨q_ml_X10_344, q_im_yX10_part, q_se_yX10_part, q_in_X10, q_co_yX10_part, by decide +kernel⟩

def X10_read_146 (v2 : Int32) (v3 : Int32) (v4 : Int32) (v5 : Int32) (m0 : Mem) : Option (Int32 × Mem) :=
  if v2 = 0 then
    some (v3, m0)
  else
    if v2 = (1 : Int32) then
      some (v4, m0)
    else
      some (v5, m0)
def X10_read_126 (v2 : Int32) (v3 : Int32) (v4 : Int32) (s0 : Int32) (m0 : Mem) : Option (Int32 × Mem) :=
  if (m0.1 63 26) = 0 then
    if (m0.1 63 22) = 0 then
      X10_read_146 v2 v3 v4 s0 m0
    else
      bv (X10_fail m0) fun m143 =>
      X10_read_146 v2 v3 v4 s0 m143
  else
    X10_read_146 v2 v3 v4 s0 m0
def X10_read_92 (v2 : Int32) (v3 : Int32) (s0 : Int32) (m0 : Mem) : Option (Int32 × Mem) :=
  if (m0.1 63 26) = 0 then
    bi (X10_isWord (116 : Int32) (105 : Int32) (109 : Int32) (101 : Int32) (115 : Int32) (0 : Int32) (0 : Int32) (0 : Int32) m0) fun r120 m120 =>
    bi (X10_part r120 m120) fun r123 m123 =>
    X10_read_126 v2 v3 s0 r123 m123
  else
    X10_read_126 v2 v3 s0 (0 : Int32) m0
def X10_read (p0 : Int32) (p1 : Int32) (m0 : Mem) : Option (Int32 × Mem) :=
  if inn p0 6 then
  bv (X10_next (pI (pI (pI (pI (pI m0 63 19 ((160 : Int32) * p0)) 63 20 ((pI m0 63 19 ((160 : Int32) * p0)).1 65 p0.toNatClampNeg)) 63 21 (0 : Int32)) 63 25 (0 : Int32)) 63 26 (0 : Int32))) fun m35 =>
  bi (X10_isWord (116 : Int32) (97 : Int32) (107 : Int32) (101 : Int32) (115 : Int32) (0 : Int32) (0 : Int32) (0 : Int32) m35) fun r53 m53 =>
  bi (X10_part r53 m53) fun r56 m56 =>
  if (m56.1 63 26) = 0 then
    bi (X10_isWord (119 : Int32) (111 : Int32) (114 : Int32) (116 : Int32) (104 : Int32) (0 : Int32) (0 : Int32) (0 : Int32) m56) fun r86 m86 =>
    bi (X10_part r86 m86) fun r89 m89 =>
    X10_read_92 p1 r56 r89 m89
  else
    X10_read_92 p1 r56 (0 : Int32) m56
  else none
abbrev rmX10_read : Room := { frames := 41, cells := 0, slots := 0, locals := 905 }
set_option maxRecDepth 100000 in
set_option maxHeartbeats 4000000 in
theorem w_X10_read_146 {Γ : Ga} {b : Nat} {ad : Nat → Nat} {nt : Nat} {z : Nat → Nat} {r9 : Int32} {m9 : Mem} (X : Cx Γ b cX10_read 6 RX10 (some .int) rmX10_read) (hret : ∀ (pc : Nat) (lv : List (Nat × Value)), decode cX10_read pc = .ok (.ireturn, 1) → narrow .int (.int r9) = .int r9 → Go Γ b (sg ad nt z) 0 0 pc lv [.int r9] m9) (v2 : Int32) (v3 : Int32) (v4 : Int32) (v5 : Int32) (m0 : Mem) (hf : X10_read_146 v2 v3 v4 v5 m0 = some (r9, m9)) : Go Γ b (sg ad nt z) 0 0 146 [(2, .int v2), (3, .int v3), (4, .int v4), (5, .int v5)] [] m0 := by
  refine g_iload_n X 0 dX10_read_146 rfl rfl ?_
  refine g_if_ne X (tgt := 154) dX10_read_147 (by decide) (fun c147 => ?_) (fun c147 => ?_)
  · have hf := ie c147 hf
    refine g_iload_n X 0 dX10_read_154 rfl rfl ?_
    refine g_iconst X (v := 1) dX10_read_155 (by decide) ?_
    refine g_icmp_ne X (tgt := 164) dX10_read_156 (by decide) (fun c156 => ?_) (fun c156 => ?_)
    · have hf := ie c156 hf
      refine g_iload X 3 dX10_read_164 rfl ?_
      obtain ⟨rfl, rfl⟩ := lf2 hf
      exact hret 166 _ dX10_read_166 rfl
    · have hf := it c156 hf
      refine g_iload X 2 dX10_read_159 rfl ?_
      refine g_goto X (tgt := 166) dX10_read_161 (by decide) ?_
      obtain ⟨rfl, rfl⟩ := lf2 hf
      exact hret 166 _ dX10_read_166 rfl
  · have hf := it c147 hf
    refine g_iload_n X 1 dX10_read_150 rfl rfl ?_
    refine g_goto X (tgt := 166) dX10_read_151 (by decide) ?_
    obtain ⟨rfl, rfl⟩ := lf2 hf
    exact hret 166 _ dX10_read_166 rfl
set_option maxRecDepth 100000 in
set_option maxHeartbeats 4000000 in
theorem w_X10_read_126 {Γ : Ga} {b : Nat} {ad : Nat → Nat} {nt : Nat} {z : Nat → Nat} {r9 : Int32} {m9 : Mem} (X : Cx Γ b cX10_read 6 RX10 (some .int) rmX10_read) (hret : ∀ (pc : Nat) (lv : List (Nat × Value)), decode cX10_read pc = .ok (.ireturn, 1) → narrow .int (.int r9) = .int r9 → Go Γ b (sg ad nt z) 0 0 pc lv [.int r9] m9) (v2 : Int32) (v3 : Int32) (v4 : Int32) (s0 : Int32) (m0 : Mem) (hf : X10_read_126 v2 v3 v4 s0 m0 = some (r9, m9)) : Go Γ b (sg ad nt z) 0 0 126 [(0, .ref (ad 63)), (2, .int v2), (3, .int v3), (4, .int v4)] [.int s0] m0 := by
  refine g_istore X (lv' := [(5, .int s0), (0, .ref (ad 63)), (2, .int v2), (3, .int v3), (4, .int v4)]) dX10_read_126 (by decide) rfl ?_
  refine g_aload_n X 1 dX10_read_128 rfl rfl ?_
  refine g_getI X 63 9 26 dX10_read_129 (sgN (by decide)) rfl (by decide) rfl iw_X10 (by decide) rfl q_fl_X10_180 ?_
  refine g_if_ne X (tgt := 146) dX10_read_132 (by decide) (fun c132 => ?_) (fun c132 => ?_)
  · have hf := ie c132 hf
    refine g_pick [2, 3, 4, 0] (lv' := [(2, .int v2), (3, .int v3), (4, .int v4), (5, .int s0)]) rfl ?_
    exact w_X10_read_146 X hret v2 v3 v4 s0 m0 hf
  · have hf := it c132 hf
    refine g_aload_n X 1 dX10_read_135 rfl rfl ?_
    refine g_getI X 63 9 22 dX10_read_136 (sgN (by decide)) rfl (by decide) rfl iw_X10 (by decide) rfl q_fl_X10_165 ?_
    refine g_if_eq X (tgt := 146) dX10_read_139 (by decide) (fun c139 => ?_) (fun c139 => ?_)
    · have hf := it c139 hf
      refine g_pick [2, 3, 4, 0] (lv' := [(2, .int v2), (3, .int v3), (4, .int v4), (5, .int s0)]) rfl ?_
      exact w_X10_read_146 X hret v2 v3 v4 s0 m0 hf
    · have hf := ie c139 hf
      refine g_aload_n X 1 dX10_read_142 rfl rfl ?_
      obtain ⟨m143, h143, hf⟩ := bv_i hf
      refine g_eVV X 63 9 [] kV_X10_193 (c_X10_fail h143) dX10_read_143 rfl rfl (sgN (by decide)) rfl (by decide) rfl rfl ⟨(Nat.le_of_ble_eq_true rfl), (Nat.le_of_ble_eq_true rfl)⟩ ⟨rfl, rfl⟩ ⟨(Nat.zero_le _), (Nat.zero_le _)⟩ (Nat.le_of_ble_eq_true rfl) ?_
      refine g_pick [2, 3, 4, 0] (lv' := [(2, .int v2), (3, .int v3), (4, .int v4), (5, .int s0)]) rfl ?_
      exact w_X10_read_146 X hret v2 v3 v4 s0 m143 hf
set_option maxRecDepth 100000 in
set_option maxHeartbeats 4000000 in
theorem w_X10_read_92 {Γ : Ga} {b : Nat} {ad : Nat → Nat} {nt : Nat} {z : Nat → Nat} {r9 : Int32} {m9 : Mem} (X : Cx Γ b cX10_read 6 RX10 (some .int) rmX10_read) (hret : ∀ (pc : Nat) (lv : List (Nat × Value)), decode cX10_read pc = .ok (.ireturn, 1) → narrow .int (.int r9) = .int r9 → Go Γ b (sg ad nt z) 0 0 pc lv [.int r9] m9) (v2 : Int32) (v3 : Int32) (s0 : Int32) (m0 : Mem) (hf : X10_read_92 v2 v3 s0 m0 = some (r9, m9)) : Go Γ b (sg ad nt z) 0 0 92 [(0, .ref (ad 63)), (2, .int v2), (3, .int v3)] [.int s0] m0 := by
  refine g_istore X (lv' := [(4, .int s0), (0, .ref (ad 63)), (2, .int v2), (3, .int v3)]) dX10_read_92 (by decide) rfl ?_
  refine g_aload_n X 1 dX10_read_94 rfl rfl ?_
  refine g_getI X 63 9 26 dX10_read_95 (sgN (by decide)) rfl (by decide) rfl iw_X10 (by decide) rfl q_fl_X10_180 ?_
  refine g_if_eq X (tgt := 105) dX10_read_98 (by decide) (fun c98 => ?_) (fun c98 => ?_)
  · have hf := it c98 hf
    refine g_aload_n X 1 dX10_read_105 rfl rfl ?_
    refine g_aload_n X 1 dX10_read_106 rfl rfl ?_
    refine g_bipush X (v := 116) dX10_read_107 (by decide) ?_
    refine g_bipush X (v := 105) dX10_read_109 (by decide) ?_
    refine g_bipush X (v := 109) dX10_read_111 (by decide) ?_
    refine g_bipush X (v := 101) dX10_read_113 (by decide) ?_
    refine g_bipush X (v := 115) dX10_read_115 (by decide) ?_
    refine g_iconst X (v := 0) dX10_read_117 (by decide) ?_
    refine g_iconst X (v := 0) dX10_read_118 (by decide) ?_
    refine g_iconst X (v := 0) dX10_read_119 (by decide) ?_
    obtain ⟨r120, m120, h120, hf⟩ := bi_i hf
    refine g_eVI X 63 9 [.int (116 : Int32), .int (105 : Int32), .int (109 : Int32), .int (101 : Int32), .int (115 : Int32), .int (0 : Int32), .int (0 : Int32), .int (0 : Int32)] kV_X10_199 (c_X10_isWord h120) dX10_read_120 rfl rfl (sgN (by decide)) rfl (by decide) rfl rfl ⟨(Nat.le_of_ble_eq_true rfl), (Nat.le_of_ble_eq_true rfl)⟩ ⟨rfl, rfl⟩ ⟨(Nat.zero_le _), (Nat.zero_le _)⟩ (Nat.le_of_ble_eq_true rfl) ?_
    obtain ⟨r123, m123, h123, hf⟩ := bi_i hf
    refine g_eVI X 63 9 [.int r120] kV_X10_344 (c_X10_part h123) dX10_read_123 rfl rfl (sgN (by decide)) rfl (by decide) rfl rfl ⟨(Nat.le_of_ble_eq_true rfl), (Nat.le_of_ble_eq_true rfl)⟩ ⟨rfl, rfl⟩ ⟨(Nat.zero_le _), (Nat.zero_le _)⟩ (Nat.le_of_ble_eq_true rfl) ?_
    refine g_pick [1, 2, 3, 0] (lv' := [(0, .ref (ad 63)), (2, .int v2), (3, .int v3), (4, .int s0)]) rfl ?_
    exact w_X10_read_126 X hret v2 v3 s0 r123 m123 hf
  · have hf := ie c98 hf
    refine g_iconst X (v := 0) dX10_read_101 (by decide) ?_
    refine g_goto X (tgt := 126) dX10_read_102 (by decide) ?_
    refine g_pick [1, 2, 3, 0] (lv' := [(0, .ref (ad 63)), (2, .int v2), (3, .int v3), (4, .int s0)]) rfl ?_
    exact w_X10_read_126 X hret v2 v3 s0 (0 : Int32) m0 hf
set_option maxRecDepth 100000 in
set_option maxHeartbeats 4000000 in
theorem c_X10_read {l : Launch} {G : GG} {b : Nat} {ad : Nat → Nat} {nt : Nat} {z : Nat → Nat} {p0 : Int32} {p1 : Int32} {m0 : Mem} {r9 : Int32} {m9 : Mem} (hf : X10_read p0 p1 m0 = some (r9, m9)) : MtI l yX10_read cX10_read 6 (some .int) rmX10_read G b (sg ad nt z) m0 [.ref (ad 63), .int p0, .int p1] (pEI r9 (sg ad nt z) m9) := by
  refine mtI_of (by decide) (Nat.le_of_ble_eq_true rfl) .int rfl (fun Γ hG X hnm hr => ?_)
  have hret : ∀ (pc : Nat) (lv : List (Nat × Value)), decode cX10_read pc = .ok (.ireturn, 1) → narrow .int (.int r9) = .int r9 → Go Γ b (sg ad nt z) 0 0 pc lv [.int r9] m9 := fun pc lv d hn => hr pc lv _ _ _ d ⟨rfl, rfl, rfl⟩ hn
  show Go Γ b (sg ad nt z) 0 0 0 [(0, .ref (ad 63)), (1, .int p0), (2, .int p1)] [] m0
  refine g_aload_n X 0 dX10_read_0 rfl rfl ?_
  refine g_sipush X (v := 160) dX10_read_1 (by decide) ?_
  refine g_iload_n X 1 dX10_read_4 rfl rfl ?_
  refine g_imul X dX10_read_5 ?_
  refine g_putI X (tyf := tyX10) 63 9 19 dX10_read_6 (sgN (by decide)) rfl (by decide) rfl iw_X10 (by decide) rfl q_fl_X10_153 tyX10_ok nmX10 rfl rfl rfl ?_
  refine g_aload_n X 0 dX10_read_9 rfl rfl ?_
  refine g_aload_n X 0 dX10_read_10 rfl rfl ?_
  refine g_getr X (x := ad 65) 63 9 2 dX10_read_11 (sgN (by decide)) rfl (by decide) rfl iw_X10 (by decide) rfl q_fl_X10_17 rfl ?_
  refine g_iload_n X 1 dX10_read_14 rfl rfl ?_
  obtain ⟨h15, hf⟩ := grd hf
  refine g_iald X 65 (n := 6) dX10_read_15 (sgN (by decide)) rfl rfl h15 ?_
  refine g_putI X (tyf := tyX10) 63 9 20 dX10_read_16 (sgN (by decide)) rfl (by decide) rfl iw_X10 (by decide) rfl q_fl_X10_150 tyX10_ok nmX10 rfl rfl rfl ?_
  refine g_aload_n X 0 dX10_read_19 rfl rfl ?_
  refine g_iconst X (v := 0) dX10_read_20 (by decide) ?_
  refine g_putI X (tyf := tyX10) 63 9 21 dX10_read_21 (sgN (by decide)) rfl (by decide) rfl iw_X10 (by decide) rfl q_fl_X10_156 tyX10_ok nmX10 rfl rfl rfl ?_
  refine g_aload_n X 0 dX10_read_24 rfl rfl ?_
  refine g_iconst X (v := 0) dX10_read_25 (by decide) ?_
  refine g_putI X (tyf := tyX10) 63 9 25 dX10_read_26 (sgN (by decide)) rfl (by decide) rfl iw_X10 (by decide) rfl q_fl_X10_190 tyX10_ok nmX10 rfl rfl rfl ?_
  refine g_aload_n X 0 dX10_read_29 rfl rfl ?_
  refine g_iconst X (v := 0) dX10_read_30 (by decide) ?_
  refine g_putI X (tyf := tyX10) 63 9 26 dX10_read_31 (sgN (by decide)) rfl (by decide) rfl iw_X10 (by decide) rfl q_fl_X10_180 tyX10_ok nmX10 rfl rfl rfl ?_
  refine g_aload_n X 0 dX10_read_34 rfl rfl ?_
  obtain ⟨m35, h35, hf⟩ := bv_i hf
  refine g_eVV X 63 9 [] kV_X10_196 (c_X10_next h35) dX10_read_35 rfl rfl (sgN (by decide)) rfl (by decide) rfl rfl ⟨(Nat.le_of_ble_eq_true rfl), (Nat.le_of_ble_eq_true rfl)⟩ ⟨rfl, rfl⟩ ⟨(Nat.zero_le _), (Nat.zero_le _)⟩ (Nat.le_of_ble_eq_true rfl) ?_
  refine g_aload_n X 0 dX10_read_38 rfl rfl ?_
  refine g_aload_n X 0 dX10_read_39 rfl rfl ?_
  refine g_bipush X (v := 116) dX10_read_40 (by decide) ?_
  refine g_bipush X (v := 97) dX10_read_42 (by decide) ?_
  refine g_bipush X (v := 107) dX10_read_44 (by decide) ?_
  refine g_bipush X (v := 101) dX10_read_46 (by decide) ?_
  refine g_bipush X (v := 115) dX10_read_48 (by decide) ?_
  refine g_iconst X (v := 0) dX10_read_50 (by decide) ?_
  refine g_iconst X (v := 0) dX10_read_51 (by decide) ?_
  refine g_iconst X (v := 0) dX10_read_52 (by decide) ?_
  obtain ⟨r53, m53, h53, hf⟩ := bi_i hf
  refine g_eVI X 63 9 [.int (116 : Int32), .int (97 : Int32), .int (107 : Int32), .int (101 : Int32), .int (115 : Int32), .int (0 : Int32), .int (0 : Int32), .int (0 : Int32)] kV_X10_199 (c_X10_isWord h53) dX10_read_53 rfl rfl (sgN (by decide)) rfl (by decide) rfl rfl ⟨(Nat.le_of_ble_eq_true rfl), (Nat.le_of_ble_eq_true rfl)⟩ ⟨rfl, rfl⟩ ⟨(Nat.zero_le _), (Nat.zero_le _)⟩ (Nat.le_of_ble_eq_true rfl) ?_
  obtain ⟨r56, m56, h56, hf⟩ := bi_i hf
  refine g_eVI X 63 9 [.int r53] kV_X10_344 (c_X10_part h56) dX10_read_56 rfl rfl (sgN (by decide)) rfl (by decide) rfl rfl ⟨(Nat.le_of_ble_eq_true rfl), (Nat.le_of_ble_eq_true rfl)⟩ ⟨rfl, rfl⟩ ⟨(Nat.zero_le _), (Nat.zero_le _)⟩ (Nat.le_of_ble_eq_true rfl) ?_
  refine g_istore_n X (lv' := [(3, .int r56), (0, .ref (ad 63)), (1, .int p0), (2, .int p1)]) dX10_read_59 rfl (by decide) rfl ?_
  refine g_aload_n X 1 dX10_read_60 rfl rfl ?_
  refine g_getI X 63 9 26 dX10_read_61 (sgN (by decide)) rfl (by decide) rfl iw_X10 (by decide) rfl q_fl_X10_180 ?_
  refine g_if_eq X (tgt := 71) dX10_read_64 (by decide) (fun c64 => ?_) (fun c64 => ?_)
  · have hf := it c64 hf
    refine g_aload_n X 1 dX10_read_71 rfl rfl ?_
    refine g_aload_n X 1 dX10_read_72 rfl rfl ?_
    refine g_bipush X (v := 119) dX10_read_73 (by decide) ?_
    refine g_bipush X (v := 111) dX10_read_75 (by decide) ?_
    refine g_bipush X (v := 114) dX10_read_77 (by decide) ?_
    refine g_bipush X (v := 116) dX10_read_79 (by decide) ?_
    refine g_bipush X (v := 104) dX10_read_81 (by decide) ?_
    refine g_iconst X (v := 0) dX10_read_83 (by decide) ?_
    refine g_iconst X (v := 0) dX10_read_84 (by decide) ?_
    refine g_iconst X (v := 0) dX10_read_85 (by decide) ?_
    obtain ⟨r86, m86, h86, hf⟩ := bi_i hf
    refine g_eVI X 63 9 [.int (119 : Int32), .int (111 : Int32), .int (114 : Int32), .int (116 : Int32), .int (104 : Int32), .int (0 : Int32), .int (0 : Int32), .int (0 : Int32)] kV_X10_199 (c_X10_isWord h86) dX10_read_86 rfl rfl (sgN (by decide)) rfl (by decide) rfl rfl ⟨(Nat.le_of_ble_eq_true rfl), (Nat.le_of_ble_eq_true rfl)⟩ ⟨rfl, rfl⟩ ⟨(Nat.zero_le _), (Nat.zero_le _)⟩ (Nat.le_of_ble_eq_true rfl) ?_
    obtain ⟨r89, m89, h89, hf⟩ := bi_i hf
    refine g_eVI X 63 9 [.int r86] kV_X10_344 (c_X10_part h89) dX10_read_89 rfl rfl (sgN (by decide)) rfl (by decide) rfl rfl ⟨(Nat.le_of_ble_eq_true rfl), (Nat.le_of_ble_eq_true rfl)⟩ ⟨rfl, rfl⟩ ⟨(Nat.zero_le _), (Nat.zero_le _)⟩ (Nat.le_of_ble_eq_true rfl) ?_
    refine g_pick [1, 3, 0] (lv' := [(0, .ref (ad 63)), (2, .int p1), (3, .int r56)]) rfl ?_
    exact w_X10_read_92 X hret p1 r56 r89 m89 hf
  · have hf := ie c64 hf
    refine g_iconst X (v := 0) dX10_read_67 (by decide) ?_
    refine g_goto X (tgt := 92) dX10_read_68 (by decide) ?_
    refine g_pick [1, 3, 0] (lv' := [(0, .ref (ad 63)), (2, .int p1), (3, .int r56)]) rfl ?_
    exact w_X10_read_92 X hret p1 r56 (0 : Int32) m56 hf
