def X9_firstOtherwise_3 (nt : Nat) (z : Nat → Nat) (s : Nat) (f : Nat) : Nat → Int32 → Int32 → Mem → Option (Int32 × Mem)
  | 0, _, _, _ => none
  | n + 1, v3, v4, m0 =>
    if (8 : Int32) ≤ v4 then
      some ((-1 : Int32), m0)
    else
      if inn v4 40 then
      bi (X2_worth nt z f v3 v4 m0) fun r25 m25 =>
      if (m0.1 (s + 1) v4.toNatClampNeg) = r25 then
        X9_firstOtherwise_3 nt z s f n v3 (v4 + (1 : Int32)) m25
      else
        some (v4, m25)
      else none
def X9_firstOtherwise (nt : Nat) (z : Nat → Nat) (s : Nat) (f : Nat) (p2 : Int32) (m0 : Mem) : Option (Int32 × Mem) :=
  X9_firstOtherwise_3 nt z s f 10000 p2 (0 : Int32) m0
abbrev rmX9_firstOtherwise : Room := { frames := 4, cells := 0, slots := 0, locals := 113 }
set_option maxRecDepth 100000 in
set_option maxHeartbeats 4000000 in
theorem w_X9_firstOtherwise_3 {Γ : Ga} {b : Nat} {ad : Nat → Nat} {nt : Nat} {z : Nat → Nat} {s : Nat} {f : Nat} {r9 : Int32} {m9 : Mem} (hs9 : isS s) (hf9 : isF f) (X : Cx Γ b cX9_firstOtherwise 5 RX9 (some .int) rmX9_firstOtherwise) (hret : ∀ (pc : Nat) (lv : List (Nat × Value)), decode cX9_firstOtherwise pc = .ok (.ireturn, 1) → narrow .int (.int r9) = .int r9 → Go Γ b (sg ad nt z) 0 0 pc lv [.int r9] m9) : ∀ (n : Nat) (v3 : Int32) (v4 : Int32) (m0 : Mem), X9_firstOtherwise_3 nt z s f n v3 v4 m0 = some (r9, m9) → Go Γ b (sg ad nt z) 0 0 3 [(0, .ref (ad 0)), (1, .ref (ad s)), (2, .ref (ad f)), (3, .int v3), (4, .int v4)] [] m0 := by
  intro n
  induction n with
  | zero =>
    intro v3 v4 m0 hf
    cases hf
  | succ n ih =>
    intro v3 v4 m0 hf
    refine g_iload X 4 dX9_firstOtherwise_3 rfl ?_
    refine g_bipush X (v := 8) dX9_firstOtherwise_5 (by decide) ?_
    refine g_icmp_ge X (tgt := 40) dX9_firstOtherwise_7 (by decide) (fun c7 => ?_) (fun c7 => ?_)
    · have hf := it c7 hf
      refine g_iconst X (v := -1) dX9_firstOtherwise_40 (by decide) ?_
      obtain ⟨rfl, rfl⟩ := lf2 hf
      exact hret 41 _ dX9_firstOtherwise_41 rfl
    · have hf := ie c7 hf
      refine g_aload_n X 1 dX9_firstOtherwise_10 rfl rfl ?_
      refine g_getr X (x := ad (s + 1)) s 5 2 dX9_firstOtherwise_11 (S_lt0 hs9) (S_kd0 hs9) (by decide) rfl iw_X6 (by decide) rfl q_fl_X9_214 (S_r2 hs9) ?_
      refine g_iload X 4 dX9_firstOtherwise_14 rfl ?_
      obtain ⟨h16, hf⟩ := grd hf
      refine g_iald X (s + 1) (n := 40) dX9_firstOtherwise_16 (S_lt1 hs9) (S_kd1 hs9) (S_ln1 hs9) h16 ?_
      refine g_aload_n X 0 dX9_firstOtherwise_17 rfl rfl ?_
      refine g_getr X (x := ad 50) 0 8 8 dX9_firstOtherwise_18 (sgN (by decide)) rfl (by decide) rfl iw_X9 (by decide) rfl q_fl_X9_57 rfl ?_
      refine g_aload_n X 2 dX9_firstOtherwise_21 rfl rfl ?_
      refine g_iload_n X 3 dX9_firstOtherwise_22 rfl rfl ?_
      refine g_iload X 4 dX9_firstOtherwise_23 rfl ?_
      obtain ⟨r25, m25, h25, hf⟩ := bi_i hf
      refine g_eVI X 50 1 [.ref (ad f), .int v3, .int v4] kV_X9_129 (c_X2_worth hf9 h25) dX9_firstOtherwise_25 rfl rfl (sgN (by decide)) rfl (by decide) rfl rfl ⟨(Nat.le_of_ble_eq_true rfl), (Nat.le_of_ble_eq_true rfl)⟩ ⟨rfl, rfl⟩ ⟨(Nat.zero_le _), (Nat.zero_le _)⟩ (Nat.le_of_ble_eq_true rfl) ?_
      refine g_icmp_eq X (tgt := 34) dX9_firstOtherwise_28 (by decide) (fun c28 => ?_) (fun c28 => ?_)
      · have hf := it c28 hf
        refine g_iinc X 4 (v := v4 + (1 : Int32)) (lv' := [(4, .int (v4 + (1 : Int32))), (0, .ref (ad 0)), (1, .ref (ad s)), (2, .ref (ad f)), (3, .int v3)]) dX9_firstOtherwise_34 rfl rfl (by decide) rfl ?_
        refine g_goto X (tgt := 3) dX9_firstOtherwise_37 (by decide) ?_
        refine g_pick [1, 2, 3, 4, 0] (lv' := [(0, .ref (ad 0)), (1, .ref (ad s)), (2, .ref (ad f)), (3, .int v3), (4, .int (v4 + (1 : Int32)))]) rfl ?_
        exact ih v3 (v4 + (1 : Int32)) m25 hf
      · have hf := ie c28 hf
        refine g_iload X 4 dX9_firstOtherwise_31 rfl ?_
        obtain ⟨rfl, rfl⟩ := lf2 hf
        exact hret 33 _ dX9_firstOtherwise_33 rfl
set_option maxRecDepth 100000 in
set_option maxHeartbeats 4000000 in
theorem c_X9_firstOtherwise {l : Launch} {G : GG} {b : Nat} {ad : Nat → Nat} {nt : Nat} {z : Nat → Nat} {s : Nat} {f : Nat} {p2 : Int32} {m0 : Mem} {r9 : Int32} {m9 : Mem} (hs9 : isS s) (hf9 : isF f) (hf : X9_firstOtherwise nt z s f p2 m0 = some (r9, m9)) : MtI l yX9_firstOtherwise cX9_firstOtherwise 5 (some .int) rmX9_firstOtherwise G b (sg ad nt z) m0 [.ref (ad 0), .ref (ad s), .ref (ad f), .int p2] (pEI r9 (sg ad nt z) m9) := by
  refine mtI_of (by decide) (Nat.le_of_ble_eq_true rfl) .int rfl (fun Γ hG X hnm hr => ?_)
  have hret : ∀ (pc : Nat) (lv : List (Nat × Value)), decode cX9_firstOtherwise pc = .ok (.ireturn, 1) → narrow .int (.int r9) = .int r9 → Go Γ b (sg ad nt z) 0 0 pc lv [.int r9] m9 := fun pc lv d hn => hr pc lv _ _ _ d ⟨rfl, rfl, rfl⟩ hn
  show Go Γ b (sg ad nt z) 0 0 0 [(0, .ref (ad 0)), (1, .ref (ad s)), (2, .ref (ad f)), (3, .int p2)] [] m0
  refine g_iconst X (v := 0) dX9_firstOtherwise_0 (by decide) ?_
  refine g_istore X (lv' := [(4, .int (0 : Int32)), (0, .ref (ad 0)), (1, .ref (ad s)), (2, .ref (ad f)), (3, .int p2)]) dX9_firstOtherwise_1 (by decide) rfl ?_
  refine g_pick [1, 2, 3, 4, 0] (lv' := [(0, .ref (ad 0)), (1, .ref (ad s)), (2, .ref (ad f)), (3, .int p2), (4, .int (0 : Int32))]) rfl ?_
  exact w_X9_firstOtherwise_3 hs9 hf9 X hret 10000 p2 (0 : Int32) m0 hf

def X9_choicesOf (p0 : Int32) (m0 : Mem) : Option (Int32 × Mem) :=
  if p0 = (1 : Int32) then
    some ((6 : Int32), m0)
  else
    if p0 = (2 : Int32) then
      some ((10 : Int32), m0)
    else
      if p0 = (3 : Int32) then
        some ((8 : Int32), m0)
      else
        if p0 = (4 : Int32) then
          some (m0.1 33 2, m0)
        else
          some (m0.1 5 0, m0)
abbrev rmX9_choicesOf : Room := { frames := 0, cells := 0, slots := 0, locals := 0 }

set_option maxRecDepth 100000 in
set_option maxHeartbeats 4000000 in
theorem c_X9_choicesOf {l : Launch} {G : GG} {b : Nat} {ad : Nat → Nat} {nt : Nat} {z : Nat → Nat} {p0 : Int32} {m0 : Mem} {r9 : Int32} {m9 : Mem} (hf : X9_choicesOf p0 m0 = some (r9, m9)) : MtI l yX9_choicesOf cX9_choicesOf 2 (some .int) rmX9_choicesOf G b (sg ad nt z) m0 [.ref (ad 0), .int p0] (pEI r9 (sg ad nt z) m9) := by
  refine mtI_of (by decide) (Nat.le_of_ble_eq_true rfl) .int rfl (fun Γ hG X hnm hr => ?_)
  have hret : ∀ (pc : Nat) (lv : List (Nat × Value)), decode cX9_choicesOf pc = .ok (.ireturn, 1) → narrow .int (.int r9) = .int r9 → Go Γ b (sg ad nt z) 0 0 pc lv [.int r9] m9 := fun pc lv d hn => hr pc lv _ _ _ d ⟨rfl, rfl, rfl⟩ hn
  show Go Γ b (sg ad nt z) 0 0 0 [(0, .ref (ad 0)), (1, .int p0)] [] m0
  refine g_iload_n X 1 dX9_choicesOf_0 rfl rfl ?_
  by_cases c1_0 : p0 = (1 : Int32)
  · have hf := it c1_0 hf
    refine g_tblIn X (tgt := 32) dX9_choicesOf_1 (by rw [c1_0]; decide) (by rw [c1_0]; decide) (off := 31) (by rw [c1_0]; rfl) (by decide) ?_
    refine g_bipush X (v := 6) dX9_choicesOf_32 (by decide) ?_
    obtain ⟨rfl, rfl⟩ := lf2 hf
    exact hret 34 _ dX9_choicesOf_34 rfl
  · have hf := ie c1_0 hf
    by_cases c1_1 : p0 = (2 : Int32)
    · have hf := it c1_1 hf
      refine g_tblIn X (tgt := 35) dX9_choicesOf_1 (by rw [c1_1]; decide) (by rw [c1_1]; decide) (off := 34) (by rw [c1_1]; rfl) (by decide) ?_
      refine g_bipush X (v := 10) dX9_choicesOf_35 (by decide) ?_
      obtain ⟨rfl, rfl⟩ := lf2 hf
      exact hret 37 _ dX9_choicesOf_37 rfl
    · have hf := ie c1_1 hf
      by_cases c1_2 : p0 = (3 : Int32)
      · have hf := it c1_2 hf
        refine g_tblIn X (tgt := 38) dX9_choicesOf_1 (by rw [c1_2]; decide) (by rw [c1_2]; decide) (off := 37) (by rw [c1_2]; rfl) (by decide) ?_
        refine g_bipush X (v := 8) dX9_choicesOf_38 (by decide) ?_
        obtain ⟨rfl, rfl⟩ := lf2 hf
        exact hret 40 _ dX9_choicesOf_40 rfl
      · have hf := ie c1_2 hf
        by_cases c1_3 : p0 = (4 : Int32)
        · have hf := it c1_3 hf
          refine g_tblIn X (tgt := 41) dX9_choicesOf_1 (by rw [c1_3]; decide) (by rw [c1_3]; decide) (off := 40) (by rw [c1_3]; rfl) (by decide) ?_
          refine g_aload_n X 0 dX9_choicesOf_41 rfl rfl ?_
          refine g_getr X (x := ad 33) 0 8 7 dX9_choicesOf_42 (sgN (by decide)) rfl (by decide) rfl iw_X9 (by decide) rfl q_fl_X9_48 rfl ?_
          refine g_getI X 33 4 2 dX9_choicesOf_45 (sgN (by decide)) rfl (by decide) rfl iw_X5 (by decide) rfl q_fl_X9_142 ?_
          obtain ⟨rfl, rfl⟩ := lf2 hf
          exact hret 48 _ dX9_choicesOf_48 rfl
        · have hf := ie c1_3 hf
          refine g_tblOut X (tgt := 49) dX9_choicesOf_1 (by have g0 := lv_neT (a := 1) c1_0 rfl; have g1 := lv_neT (a := 2) c1_1 rfl; have g2 := lv_neT (a := 3) c1_2 rfl; have g3 := lv_neT (a := 4) c1_3 rfl; omega) (by decide) ?_
          refine g_aload_n X 0 dX9_choicesOf_49 rfl rfl ?_
          refine g_getr X (x := ad 5) 0 8 1 dX9_choicesOf_50 (sgN (by decide)) rfl (by decide) rfl iw_X9 (by decide) rfl q_fl_X9_19 rfl ?_
          refine g_getI X 5 0 0 dX9_choicesOf_53 (sgN (by decide)) rfl (by decide) rfl iw_X0 (by decide) rfl q_fl_X9_165 ?_
          obtain ⟨rfl, rfl⟩ := lf2 hf
          exact hret 56 _ dX9_choicesOf_56 rfl

theorem kV_X9_217 : wcV RX9 217 RX9 yX9_choicesOf cX9_choicesOf 2 (some .int) 1 := ⟨q_ml_X9_217, q_im_yX9_choicesOf, q_se_yX9_choicesOf, q_in_X9, q_co_yX9_choicesOf, by decide +kernel⟩

theorem kV_X9_206 : wcV RX9 206 RX9 yX9_firstOtherwise cX9_firstOtherwise 5 (some .int) 3 := ⟨q_ml_X9_206, q_im_yX9_firstOtherwise, q_se_yX9_firstOtherwise, q_in_X9, q_co_yX9_firstOtherwise, by decide +kernel⟩

def X9_couldBe_146 (nt : Nat) (z : Nat → Nat) (s : Nat) (k24 : Int32 → Int32 → Int32 → Int32 → Int32 → Mem → Option (Int32 × Mem)) (v2 : Int32) (v3 : Int32) (v4 : Int32) (v5 : Int32) (v6 : Int32) (m0 : Mem) : Option (Int32 × Mem) :=
  k24 v2 v3 v4 v5 (v6 + (1 : Int32)) m0
def X9_couldBe_122 (nt : Nat) (z : Nat → Nat) (s : Nat) (k24 : Int32 → Int32 → Int32 → Int32 → Int32 → Mem → Option (Int32 × Mem)) (v2 : Int32) (v3 : Int32) (v4 : Int32) (v5 : Int32) (v6 : Int32) (v7 : Int32) (m0 : Mem) : Option (Int32 × Mem) :=
  bi (X9_firstOtherwise nt z s 23 v7 m0) fun r130 m130 =>
  if r130 = (-1 : Int32) then
    X9_couldBe_146 nt z s k24 v2 v3 v4 (v5 ||| ((1 : Int32) <<< (v6 &&& 31))) v6 m130
  else
    X9_couldBe_146 nt z s k24 v2 v3 v4 v5 v6 m130
def X9_couldBe_24 (nt : Nat) (z : Nat → Nat) (s : Nat) : Nat → Int32 → Int32 → Int32 → Int32 → Int32 → Mem → Option (Int32 × Mem)
  | 0, _, _, _, _, _, _ => none
  | n + 1, v2, v3, v4, v5, v6, m0 =>
    if v4 ≤ v6 then
      some (v5, m0)
    else
      if v3 = (1 : Int32) then
        if inn v2 6 then
        X9_couldBe_122 nt z s (X9_couldBe_24 nt z s n) v2 v3 v4 v5 v6 v2 (pI m0 24 v2.toNatClampNeg v6)
        else none
      else
        if v3 = (2 : Int32) then
          if inn v2 6 then
          X9_couldBe_122 nt z s (X9_couldBe_24 nt z s n) v2 v3 v4 v5 v6 v2 (pI m0 25 v2.toNatClampNeg v6)
          else none
        else
          if v3 = (3 : Int32) then
            if inn v2 6 then
            X9_couldBe_122 nt z s (X9_couldBe_24 nt z s n) v2 v3 v4 v5 v6 v2 (pI m0 26 v2.toNatClampNeg v6)
            else none
          else
            if v3 = (4 : Int32) then
              X9_couldBe_122 nt z s (X9_couldBe_24 nt z s n) v2 v3 v4 v5 v6 v2 (pI m0 23 2 v6)
            else
              X9_couldBe_122 nt z s (X9_couldBe_24 nt z s n) v2 v3 v4 v5 v6 v6 m0
def X9_couldBe (nt : Nat) (z : Nat → Nat) (s : Nat) (p1 : Int32) (p2 : Int32) (m0 : Mem) : Option (Int32 × Mem) :=
  bv (X0_become 23 5 m0) fun m8 =>
  bi (X9_choicesOf p2 m8) fun r13 m13 =>
  X9_couldBe_24 nt z s 10000 p1 p2 r13 (0 : Int32) (0 : Int32) m13
abbrev rmX9_couldBe : Room := { frames := 5, cells := 0, slots := 0, locals := 137 }
set_option maxRecDepth 100000 in
set_option maxHeartbeats 4000000 in
theorem w_X9_couldBe_146 {Γ : Ga} {b : Nat} {ad : Nat → Nat} {nt : Nat} {z : Nat → Nat} {s : Nat} {k24 : Int32 → Int32 → Int32 → Int32 → Int32 → Mem → Option (Int32 × Mem)} {r9 : Int32} {m9 : Mem} (hs9 : isS s) (X : Cx Γ b cX9_couldBe 8 RX9 (some .int) rmX9_couldBe) (hret : ∀ (pc : Nat) (lv : List (Nat × Value)), decode cX9_couldBe pc = .ok (.ireturn, 1) → narrow .int (.int r9) = .int r9 → Go Γ b (sg ad nt z) 0 0 pc lv [.int r9] m9) (hk24 : ∀ (v2 : Int32) (v3 : Int32) (v4 : Int32) (v5 : Int32) (v6 : Int32) (m0 : Mem), k24 v2 v3 v4 v5 v6 m0 = some (r9, m9) → Go Γ b (sg ad nt z) 0 0 24 [(0, .ref (ad 0)), (1, .ref (ad s)), (2, .int v2), (3, .int v3), (4, .int v4), (5, .int v5), (6, .int v6)] [] m0) (v2 : Int32) (v3 : Int32) (v4 : Int32) (v5 : Int32) (v6 : Int32) (m0 : Mem) (hf : X9_couldBe_146 nt z s k24 v2 v3 v4 v5 v6 m0 = some (r9, m9)) : Go Γ b (sg ad nt z) 0 0 146 [(0, .ref (ad 0)), (1, .ref (ad s)), (2, .int v2), (3, .int v3), (4, .int v4), (5, .int v5), (6, .int v6)] [] m0 := by
  refine g_iinc X 6 (v := v6 + (1 : Int32)) (lv' := [(6, .int (v6 + (1 : Int32))), (0, .ref (ad 0)), (1, .ref (ad s)), (2, .int v2), (3, .int v3), (4, .int v4), (5, .int v5)]) dX9_couldBe_146 rfl rfl (by decide) rfl ?_
  refine g_goto X (tgt := 24) dX9_couldBe_149 (by decide) ?_
  refine g_pick [1, 2, 3, 4, 5, 6, 0] (lv' := [(0, .ref (ad 0)), (1, .ref (ad s)), (2, .int v2), (3, .int v3), (4, .int v4), (5, .int v5), (6, .int (v6 + (1 : Int32)))]) rfl ?_
  exact hk24 v2 v3 v4 v5 (v6 + (1 : Int32)) m0 hf
set_option maxRecDepth 100000 in
set_option maxHeartbeats 4000000 in
theorem w_X9_couldBe_122 {Γ : Ga} {b : Nat} {ad : Nat → Nat} {nt : Nat} {z : Nat → Nat} {s : Nat} {k24 : Int32 → Int32 → Int32 → Int32 → Int32 → Mem → Option (Int32 × Mem)} {r9 : Int32} {m9 : Mem} (hs9 : isS s) (X : Cx Γ b cX9_couldBe 8 RX9 (some .int) rmX9_couldBe) (hret : ∀ (pc : Nat) (lv : List (Nat × Value)), decode cX9_couldBe pc = .ok (.ireturn, 1) → narrow .int (.int r9) = .int r9 → Go Γ b (sg ad nt z) 0 0 pc lv [.int r9] m9) (hk24 : ∀ (v2 : Int32) (v3 : Int32) (v4 : Int32) (v5 : Int32) (v6 : Int32) (m0 : Mem), k24 v2 v3 v4 v5 v6 m0 = some (r9, m9) → Go Γ b (sg ad nt z) 0 0 24 [(0, .ref (ad 0)), (1, .ref (ad s)), (2, .int v2), (3, .int v3), (4, .int v4), (5, .int v5), (6, .int v6)] [] m0) (v2 : Int32) (v3 : Int32) (v4 : Int32) (v5 : Int32) (v6 : Int32) (v7 : Int32) (m0 : Mem) (hf : X9_couldBe_122 nt z s k24 v2 v3 v4 v5 v6 v7 m0 = some (r9, m9)) : Go Γ b (sg ad nt z) 0 0 122 [(0, .ref (ad 0)), (1, .ref (ad s)), (2, .int v2), (3, .int v3), (4, .int v4), (5, .int v5), (6, .int v6), (7, .int v7)] [] m0 := by
  refine g_aload_n X 0 dX9_couldBe_122 rfl rfl ?_
  refine g_aload_n X 1 dX9_couldBe_123 rfl rfl ?_
  refine g_aload_n X 0 dX9_couldBe_124 rfl rfl ?_
  refine g_getr X (x := ad 23) 0 8 5 dX9_couldBe_125 (sgN (by decide)) rfl (by decide) rfl iw_X9 (by decide) rfl q_fl_X9_33 rfl ?_
  refine g_iload X 7 dX9_couldBe_128 rfl ?_
  obtain ⟨r130, m130, h130, hf⟩ := bi_i hf
  refine g_eVI X 0 8 [.ref (ad s), .ref (ad 23), .int v7] kV_X9_206 (c_X9_firstOtherwise hs9 (by unfold isF; decide) h130) dX9_couldBe_130 rfl rfl (sgN (by decide)) rfl (by decide) rfl rfl ⟨(Nat.le_of_ble_eq_true rfl), (Nat.le_of_ble_eq_true rfl)⟩ ⟨rfl, rfl⟩ ⟨(Nat.zero_le _), (Nat.zero_le _)⟩ (Nat.le_of_ble_eq_true rfl) ?_
  refine g_iconst X (v := -1) dX9_couldBe_133 (by decide) ?_
  refine g_icmp_ne X (tgt := 146) dX9_couldBe_134 (by decide) (fun c134 => ?_) (fun c134 => ?_)
  · have hf := ie c134 hf
    refine g_pick [0, 1, 2, 3, 4, 5, 6] (lv' := [(0, .ref (ad 0)), (1, .ref (ad s)), (2, .int v2), (3, .int v3), (4, .int v4), (5, .int v5), (6, .int v6)]) rfl ?_
    exact w_X9_couldBe_146 hs9 X hret hk24 v2 v3 v4 v5 v6 m130 hf
  · have hf := it c134 hf
    refine g_iload X 5 dX9_couldBe_137 rfl ?_
    refine g_iconst X (v := 1) dX9_couldBe_139 (by decide) ?_
    refine g_iload X 6 dX9_couldBe_140 rfl ?_
    refine g_ishl X dX9_couldBe_142 ?_
    refine g_ior X dX9_couldBe_143 ?_
    refine g_istore X (lv' := [(5, .int (v5 ||| ((1 : Int32) <<< (v6 &&& 31)))), (0, .ref (ad 0)), (1, .ref (ad s)), (2, .int v2), (3, .int v3), (4, .int v4), (6, .int v6), (7, .int v7)]) dX9_couldBe_144 (by decide) rfl ?_
    refine g_pick [1, 2, 3, 4, 5, 0, 6] (lv' := [(0, .ref (ad 0)), (1, .ref (ad s)), (2, .int v2), (3, .int v3), (4, .int v4), (5, .int (v5 ||| ((1 : Int32) <<< (v6 &&& 31)))), (6, .int v6)]) rfl ?_
    exact w_X9_couldBe_146 hs9 X hret hk24 v2 v3 v4 (v5 ||| ((1 : Int32) <<< (v6 &&& 31))) v6 m130 hf
set_option maxRecDepth 100000 in
set_option maxHeartbeats 4000000 in
theorem w_X9_couldBe_24 {Γ : Ga} {b : Nat} {ad : Nat → Nat} {nt : Nat} {z : Nat → Nat} {s : Nat} {r9 : Int32} {m9 : Mem} (hs9 : isS s) (X : Cx Γ b cX9_couldBe 8 RX9 (some .int) rmX9_couldBe) (hret : ∀ (pc : Nat) (lv : List (Nat × Value)), decode cX9_couldBe pc = .ok (.ireturn, 1) → narrow .int (.int r9) = .int r9 → Go Γ b (sg ad nt z) 0 0 pc lv [.int r9] m9) : ∀ (n : Nat) (v2 : Int32) (v3 : Int32) (v4 : Int32) (v5 : Int32) (v6 : Int32) (m0 : Mem), X9_couldBe_24 nt z s n v2 v3 v4 v5 v6 m0 = some (r9, m9) → Go Γ b (sg ad nt z) 0 0 24 [(0, .ref (ad 0)), (1, .ref (ad s)), (2, .int v2), (3, .int v3), (4, .int v4), (5, .int v5), (6, .int v6)] [] m0 := by
  intro n
  induction n with
  | zero =>
    intro v2 v3 v4 v5 v6 m0 hf
    cases hf
  | succ n ih =>
    intro v2 v3 v4 v5 v6 m0 hf
    refine g_iload X 6 dX9_couldBe_24 rfl ?_
    refine g_iload X 4 dX9_couldBe_26 rfl ?_
    refine g_icmp_ge X (tgt := 152) dX9_couldBe_28 (by decide) (fun c28 => ?_) (fun c28 => ?_)
    · have hf := it c28 hf
      refine g_iload X 5 dX9_couldBe_152 rfl ?_
      obtain ⟨rfl, rfl⟩ := lf2 hf
      exact hret 154 _ dX9_couldBe_154 rfl
    · have hf := ie c28 hf
      refine g_iload_n X 2 dX9_couldBe_31 rfl rfl ?_
      refine g_istore X (lv' := [(7, .int v2), (0, .ref (ad 0)), (1, .ref (ad s)), (2, .int v2), (3, .int v3), (4, .int v4), (5, .int v5), (6, .int v6)]) dX9_couldBe_32 (by decide) rfl ?_
      refine g_iload_n X 4 dX9_couldBe_34 rfl rfl ?_
      by_cases c35_0 : v3 = (1 : Int32)
      · have hf := it c35_0 hf
        refine g_tblIn X (tgt := 64) dX9_couldBe_35 (by rw [c35_0]; decide) (by rw [c35_0]; decide) (off := 29) (by rw [c35_0]; rfl) (by decide) ?_
        refine g_aload_n X 1 dX9_couldBe_64 rfl rfl ?_
        refine g_getr X (x := ad 23) 0 8 5 dX9_couldBe_65 (sgN (by decide)) rfl (by decide) rfl iw_X9 (by decide) rfl q_fl_X9_33 rfl ?_
        refine g_getr X (x := ad 24) 23 0 3 dX9_couldBe_68 (sgN (by decide)) rfl (by decide) rfl iw_X0 (by decide) rfl q_fl_X9_220 rfl ?_
        refine g_iload_n X 3 dX9_couldBe_71 rfl rfl ?_
        refine g_iload X 7 dX9_couldBe_72 rfl ?_
        obtain ⟨h74, hf⟩ := grd hf
        refine g_iast X 24 (n := 6) dX9_couldBe_74 (sgN (by decide)) rfl rfl h74 ?_
        refine g_goto X (tgt := 122) dX9_couldBe_75 (by decide) ?_
        refine g_pick [1, 2, 3, 4, 5, 6, 7, 0] (lv' := [(0, .ref (ad 0)), (1, .ref (ad s)), (2, .int v2), (3, .int v3), (4, .int v4), (5, .int v5), (6, .int v6), (7, .int v2)]) rfl ?_
        exact w_X9_couldBe_122 hs9 X hret ih v2 v3 v4 v5 v6 v2 (pI m0 24 v2.toNatClampNeg v6) hf
      · have hf := ie c35_0 hf
        by_cases c35_1 : v3 = (2 : Int32)
        · have hf := it c35_1 hf
          refine g_tblIn X (tgt := 78) dX9_couldBe_35 (by rw [c35_1]; decide) (by rw [c35_1]; decide) (off := 43) (by rw [c35_1]; rfl) (by decide) ?_
          refine g_aload_n X 1 dX9_couldBe_78 rfl rfl ?_
          refine g_getr X (x := ad 23) 0 8 5 dX9_couldBe_79 (sgN (by decide)) rfl (by decide) rfl iw_X9 (by decide) rfl q_fl_X9_33 rfl ?_
          refine g_getr X (x := ad 25) 23 0 4 dX9_couldBe_82 (sgN (by decide)) rfl (by decide) rfl iw_X0 (by decide) rfl q_fl_X9_223 rfl ?_
          refine g_iload_n X 3 dX9_couldBe_85 rfl rfl ?_
          refine g_iload X 7 dX9_couldBe_86 rfl ?_
          obtain ⟨h88, hf⟩ := grd hf
          refine g_iast X 25 (n := 6) dX9_couldBe_88 (sgN (by decide)) rfl rfl h88 ?_
          refine g_goto X (tgt := 122) dX9_couldBe_89 (by decide) ?_
          refine g_pick [1, 2, 3, 4, 5, 6, 7, 0] (lv' := [(0, .ref (ad 0)), (1, .ref (ad s)), (2, .int v2), (3, .int v3), (4, .int v4), (5, .int v5), (6, .int v6), (7, .int v2)]) rfl ?_
          exact w_X9_couldBe_122 hs9 X hret ih v2 v3 v4 v5 v6 v2 (pI m0 25 v2.toNatClampNeg v6) hf
        · have hf := ie c35_1 hf
          by_cases c35_2 : v3 = (3 : Int32)
          · have hf := it c35_2 hf
            refine g_tblIn X (tgt := 92) dX9_couldBe_35 (by rw [c35_2]; decide) (by rw [c35_2]; decide) (off := 57) (by rw [c35_2]; rfl) (by decide) ?_
            refine g_aload_n X 1 dX9_couldBe_92 rfl rfl ?_
            refine g_getr X (x := ad 23) 0 8 5 dX9_couldBe_93 (sgN (by decide)) rfl (by decide) rfl iw_X9 (by decide) rfl q_fl_X9_33 rfl ?_
            refine g_getr X (x := ad 26) 23 0 5 dX9_couldBe_96 (sgN (by decide)) rfl (by decide) rfl iw_X0 (by decide) rfl q_fl_X9_116 rfl ?_
            refine g_iload_n X 3 dX9_couldBe_99 rfl rfl ?_
            refine g_iload X 7 dX9_couldBe_100 rfl ?_
            obtain ⟨h102, hf⟩ := grd hf
            refine g_iast X 26 (n := 6) dX9_couldBe_102 (sgN (by decide)) rfl rfl h102 ?_
            refine g_goto X (tgt := 122) dX9_couldBe_103 (by decide) ?_
            refine g_pick [1, 2, 3, 4, 5, 6, 7, 0] (lv' := [(0, .ref (ad 0)), (1, .ref (ad s)), (2, .int v2), (3, .int v3), (4, .int v4), (5, .int v5), (6, .int v6), (7, .int v2)]) rfl ?_
            exact w_X9_couldBe_122 hs9 X hret ih v2 v3 v4 v5 v6 v2 (pI m0 26 v2.toNatClampNeg v6) hf
          · have hf := ie c35_2 hf
            by_cases c35_3 : v3 = (4 : Int32)
            · have hf := it c35_3 hf
              refine g_tblIn X (tgt := 106) dX9_couldBe_35 (by rw [c35_3]; decide) (by rw [c35_3]; decide) (off := 71) (by rw [c35_3]; rfl) (by decide) ?_
              refine g_aload_n X 1 dX9_couldBe_106 rfl rfl ?_
              refine g_getr X (x := ad 23) 0 8 5 dX9_couldBe_107 (sgN (by decide)) rfl (by decide) rfl iw_X9 (by decide) rfl q_fl_X9_33 rfl ?_
              refine g_iload X 7 dX9_couldBe_110 rfl ?_
              refine g_putI X (tyf := tyX0) 23 0 2 dX9_couldBe_112 (sgN (by decide)) rfl (by decide) rfl iw_X0 (by decide) rfl q_fl_X9_148 tyX0_ok nmX0 rfl rfl rfl ?_
              refine g_goto X (tgt := 122) dX9_couldBe_115 (by decide) ?_
              refine g_pick [1, 2, 3, 4, 5, 6, 7, 0] (lv' := [(0, .ref (ad 0)), (1, .ref (ad s)), (2, .int v2), (3, .int v3), (4, .int v4), (5, .int v5), (6, .int v6), (7, .int v2)]) rfl ?_
              exact w_X9_couldBe_122 hs9 X hret ih v2 v3 v4 v5 v6 v2 (pI m0 23 2 v6) hf
            · have hf := ie c35_3 hf
              refine g_tblOut X (tgt := 118) dX9_couldBe_35 (by have g0 := lv_neT (a := 1) c35_0 rfl; have g1 := lv_neT (a := 2) c35_1 rfl; have g2 := lv_neT (a := 3) c35_2 rfl; have g3 := lv_neT (a := 4) c35_3 rfl; omega) (by decide) ?_
              refine g_iload X 7 dX9_couldBe_118 rfl ?_
              refine g_istore X (lv' := [(7, .int v6), (0, .ref (ad 0)), (1, .ref (ad s)), (2, .int v2), (3, .int v3), (4, .int v4), (5, .int v5), (6, .int v6)]) dX9_couldBe_120 (by decide) rfl ?_
              refine g_pick [1, 2, 3, 4, 5, 6, 7, 0] (lv' := [(0, .ref (ad 0)), (1, .ref (ad s)), (2, .int v2), (3, .int v3), (4, .int v4), (5, .int v5), (6, .int v6), (7, .int v6)]) rfl ?_
              exact w_X9_couldBe_122 hs9 X hret ih v2 v3 v4 v5 v6 v6 m0 hf
set_option maxRecDepth 100000 in
set_option maxHeartbeats 4000000 in
theorem c_X9_couldBe {l : Launch} {G : GG} {b : Nat} {ad : Nat → Nat} {nt : Nat} {z : Nat → Nat} {s : Nat} {p1 : Int32} {p2 : Int32} {m0 : Mem} {r9 : Int32} {m9 : Mem} (hs9 : isS s) (hf : X9_couldBe nt z s p1 p2 m0 = some (r9, m9)) : MtI l yX9_couldBe cX9_couldBe 8 (some .int) rmX9_couldBe G b (sg ad nt z) m0 [.ref (ad 0), .ref (ad s), .int p1, .int p2] (pEI r9 (sg ad nt z) m9) := by
  refine mtI_of (by decide) (Nat.le_of_ble_eq_true rfl) .int rfl (fun Γ hG X hnm hr => ?_)
  have hret : ∀ (pc : Nat) (lv : List (Nat × Value)), decode cX9_couldBe pc = .ok (.ireturn, 1) → narrow .int (.int r9) = .int r9 → Go Γ b (sg ad nt z) 0 0 pc lv [.int r9] m9 := fun pc lv d hn => hr pc lv _ _ _ d ⟨rfl, rfl, rfl⟩ hn
  show Go Γ b (sg ad nt z) 0 0 0 [(0, .ref (ad 0)), (1, .ref (ad s)), (2, .int p1), (3, .int p2)] [] m0
  refine g_aload_n X 0 dX9_couldBe_0 rfl rfl ?_
  refine g_getr X (x := ad 23) 0 8 5 dX9_couldBe_1 (sgN (by decide)) rfl (by decide) rfl iw_X9 (by decide) rfl q_fl_X9_33 rfl ?_
  refine g_aload_n X 0 dX9_couldBe_4 rfl rfl ?_
  refine g_getr X (x := ad 5) 0 8 1 dX9_couldBe_5 (sgN (by decide)) rfl (by decide) rfl iw_X9 (by decide) rfl q_fl_X9_19 rfl ?_
  obtain ⟨m8, h8, hf⟩ := bv_i hf
  refine g_eVV X 23 0 [.ref (ad 5)] kV_X9_166 (c_X0_become (by unfold isF; decide) (by unfold isF; decide) h8) dX9_couldBe_8 rfl rfl (sgN (by decide)) rfl (by decide) rfl rfl ⟨(Nat.le_of_ble_eq_true rfl), (Nat.le_of_ble_eq_true rfl)⟩ ⟨rfl, rfl⟩ ⟨(Nat.zero_le _), (Nat.zero_le _)⟩ (Nat.le_of_ble_eq_true rfl) ?_
  refine g_aload_n X 0 dX9_couldBe_11 rfl rfl ?_
  refine g_iload_n X 3 dX9_couldBe_12 rfl rfl ?_
  obtain ⟨r13, m13, h13, hf⟩ := bi_i hf
  refine g_eVI X 0 8 [.int p2] kV_X9_217 (c_X9_choicesOf h13) dX9_couldBe_13 rfl rfl (sgN (by decide)) rfl (by decide) rfl rfl ⟨(Nat.le_of_ble_eq_true rfl), (Nat.le_of_ble_eq_true rfl)⟩ ⟨rfl, rfl⟩ ⟨(Nat.zero_le _), (Nat.zero_le _)⟩ (Nat.le_of_ble_eq_true rfl) ?_
  refine g_istore X (lv' := [(4, .int r13), (0, .ref (ad 0)), (1, .ref (ad s)), (2, .int p1), (3, .int p2)]) dX9_couldBe_16 (by decide) rfl ?_
  refine g_iconst X (v := 0) dX9_couldBe_18 (by decide) ?_
  refine g_istore X (lv' := [(5, .int (0 : Int32)), (4, .int r13), (0, .ref (ad 0)), (1, .ref (ad s)), (2, .int p1), (3, .int p2)]) dX9_couldBe_19 (by decide) rfl ?_
  refine g_iconst X (v := 0) dX9_couldBe_21 (by decide) ?_
  refine g_istore X (lv' := [(6, .int (0 : Int32)), (5, .int (0 : Int32)), (4, .int r13), (0, .ref (ad 0)), (1, .ref (ad s)), (2, .int p1), (3, .int p2)]) dX9_couldBe_22 (by decide) rfl ?_
  refine g_pick [3, 4, 5, 6, 2, 1, 0] (lv' := [(0, .ref (ad 0)), (1, .ref (ad s)), (2, .int p1), (3, .int p2), (4, .int r13), (5, .int (0 : Int32)), (6, .int (0 : Int32))]) rfl ?_
  exact w_X9_couldBe_24 hs9 X hret 10000 p1 p2 r13 (0 : Int32) (0 : Int32) m13 hf

theorem kV_X9_197 : wcV RX9 197 RX9 yX9_sheetOf cX9_sheetOf 2 (some (.object "PaidInKind$Sheet")) 1 := ⟨q_ml_X9_197, q_im_yX9_sheetOf, q_se_yX9_sheetOf, q_in_X9, q_co_yX9_sheetOf, by decide +kernel⟩

theorem kV_X9_201 : wcV RX9 201 RX6 yX6_isMissing cX6_isMissing 1 (some .boolean) 0 := ⟨q_ml_X9_201, q_im_yX6_isMissing, q_se_yX6_isMissing, q_in_X6, q_co_yX6_isMissing, by decide +kernel⟩

theorem kV_X9_210 : wcV RX9 210 RX9 yX9_couldBe cX9_couldBe 8 (some .int) 3 := ⟨q_ml_X9_210, q_im_yX9_couldBe, q_se_yX9_couldBe, q_in_X9, q_co_yX9_couldBe, by decide +kernel⟩

def X9_tells (nt : Nat) (z : Nat → Nat) (p0 : Int32) (p1 : Int32) (p2 : Int32) (m0 : Mem) : Option (Int32 × Mem) :=
  bq (X9_sheetOf p0 m0) fun r2 m2 =>
  oq r2
    (some ((-2 : Int32), m2))
    (fun w2 =>
    bi (X9_isPerson p1 m2) fun r14 m14 =>
    if r14 = 0 then
      some ((-2 : Int32), m14)
    else
      if p2 < 0 then
        some ((-2 : Int32), m14)
      else
        if p2 ≤ (5 : Int32) then
          bi (X6_isMissing w2 m14) fun r34 m34 =>
          if r34 = 0 then
            if (m34.1 w2 1) = (8 : Int32) then
              if p2 = 0 then
                bi (X9_firstOtherwise nt z w2 5 p1 m34) fun r68 m68 =>
                some (r68, m68)
              else
                bi (X9_couldBe nt z w2 p1 p2 m34) fun r79 m79 =>
                some (r79, m79)
            else
              some ((-2 : Int32), m34)
          else
            some ((-11 : Int32), m34)
        else
          some ((-2 : Int32), m14))
abbrev rmX9_tells : Room := { frames := 6, cells := 0, slots := 0, locals := 164 }

set_option maxRecDepth 100000 in
set_option maxHeartbeats 4000000 in
theorem c_X9_tells {l : Launch} {G : GG} {b : Nat} {ad : Nat → Nat} {nt : Nat} {z : Nat → Nat} {p0 : Int32} {p1 : Int32} {p2 : Int32} {m0 : Mem} {r9 : Int32} {m9 : Mem} (hf : X9_tells nt z p0 p1 p2 m0 = some (r9, m9)) : MtI l yX9_tells cX9_tells 5 (some .int) rmX9_tells G b (sg ad nt z) m0 [.ref (ad 0), .int p0, .int p1, .int p2] (pEI r9 (sg ad nt z) m9) := by
  refine mtI_of (by decide) (Nat.le_of_ble_eq_true rfl) .int rfl (fun Γ hG X hnm hr => ?_)
  have hret : ∀ (pc : Nat) (lv : List (Nat × Value)), decode cX9_tells pc = .ok (.ireturn, 1) → narrow .int (.int r9) = .int r9 → Go Γ b (sg ad nt z) 0 0 pc lv [.int r9] m9 := fun pc lv d hn => hr pc lv _ _ _ d ⟨rfl, rfl, rfl⟩ hn
  show Go Γ b (sg ad nt z) 0 0 0 [(0, .ref (ad 0)), (1, .int p0), (2, .int p1), (3, .int p2)] [] m0
  refine g_aload_n X 0 dX9_tells_0 rfl rfl ?_
  refine g_iload_n X 1 dX9_tells_1 rfl rfl ?_
  obtain ⟨r2, m2, h2, hf⟩ := bq_i hf
  have ok2 := shOk h2
  cases r2 with
  | none =>
    refine g_eVQ X 0 8 [.int p0] kV_X9_197 (c_X9_sheetOf h2) dX9_tells_2 rfl rfl (sgN (by decide)) rfl (by decide) rfl rfl ⟨(Nat.le_of_ble_eq_true rfl), (Nat.le_of_ble_eq_true rfl)⟩ ⟨rfl, rfl⟩ ⟨(Nat.zero_le _), (Nat.zero_le _)⟩ (Nat.le_of_ble_eq_true rfl) ?_
    refine g_astoreN X (lv' := [(4, .null), (0, .ref (ad 0)), (1, .int p0), (2, .int p1), (3, .int p2)]) dX9_tells_5 (by decide) rfl ?_
    refine g_aloadN X 0 dX9_tells_7 rfl ?_
    refine g_ifnullN X (tgt := 29) dX9_tells_9 (by decide) ?_
    refine g_bipush X (v := -2) dX9_tells_29 (by decide) ?_
    obtain ⟨rfl, rfl⟩ := lf2 hf
    exact hret 31 _ dX9_tells_31 rfl
  | some w2 =>
    have fw2 : isS w2 := ok2 _ rfl
    refine g_eVQ X 0 8 [.int p0] kV_X9_197 (c_X9_sheetOf h2) dX9_tells_2 rfl rfl (sgN (by decide)) rfl (by decide) rfl rfl ⟨(Nat.le_of_ble_eq_true rfl), (Nat.le_of_ble_eq_true rfl)⟩ ⟨rfl, rfl⟩ ⟨(Nat.zero_le _), (Nat.zero_le _)⟩ (Nat.le_of_ble_eq_true rfl) ?_
    refine g_astore X (lv' := [(4, .ref (ad w2)), (0, .ref (ad 0)), (1, .int p0), (2, .int p1), (3, .int p2)]) dX9_tells_5 (by decide) rfl ?_
    refine g_aload X 0 dX9_tells_7 rfl ?_
    refine g_ifnull X dX9_tells_9 ?_
    refine g_aload_n X 1 dX9_tells_12 rfl rfl ?_
    refine g_iload_n X 3 dX9_tells_13 rfl rfl ?_
    obtain ⟨r14, m14, h14, hf⟩ := bi_i hf
    refine g_eVI X 0 8 [.int p1] kV_X9_86 (c_X9_isPerson h14) dX9_tells_14 rfl rfl (sgN (by decide)) rfl (by decide) rfl rfl ⟨(Nat.le_of_ble_eq_true rfl), (Nat.le_of_ble_eq_true rfl)⟩ ⟨rfl, rfl⟩ ⟨(Nat.zero_le _), (Nat.zero_le _)⟩ (Nat.le_of_ble_eq_true rfl) ?_
    refine g_if_eq X (tgt := 29) dX9_tells_17 (by decide) (fun c17 => ?_) (fun c17 => ?_)
    · have hf := it c17 hf
      refine g_bipush X (v := -2) dX9_tells_29 (by decide) ?_
      obtain ⟨rfl, rfl⟩ := lf2 hf
      exact hret 31 _ dX9_tells_31 rfl
    · have hf := ie c17 hf
      refine g_iload_n X 4 dX9_tells_20 rfl rfl ?_
      refine g_if_lt X (tgt := 29) dX9_tells_21 (by decide) (fun c21 => ?_) (fun c21 => ?_)
      · have hf := it c21 hf
        refine g_bipush X (v := -2) dX9_tells_29 (by decide) ?_
        obtain ⟨rfl, rfl⟩ := lf2 hf
        exact hret 31 _ dX9_tells_31 rfl
      · have hf := ie c21 hf
        refine g_iload_n X 4 dX9_tells_24 rfl rfl ?_
        refine g_iconst X (v := 5) dX9_tells_25 (by decide) ?_
        refine g_icmp_le X (tgt := 32) dX9_tells_26 (by decide) (fun c26 => ?_) (fun c26 => ?_)
        · have hf := it c26 hf
          refine g_aload X 0 dX9_tells_32 rfl ?_
          obtain ⟨r34, m34, h34, hf⟩ := bi_i hf
          refine g_eVI X w2 5 [] kV_X9_201 (c_X6_isMissing fw2 h34) dX9_tells_34 rfl rfl (S_lt0 fw2) (S_kd0 fw2) (by decide) rfl rfl ⟨(Nat.le_of_ble_eq_true rfl), (Nat.le_of_ble_eq_true rfl)⟩ ⟨rfl, rfl⟩ ⟨(Nat.zero_le _), (Nat.zero_le _)⟩ (Nat.le_of_ble_eq_true rfl) ?_
          refine g_if_eq X (tgt := 43) dX9_tells_37 (by decide) (fun c37 => ?_) (fun c37 => ?_)
          · have hf := it c37 hf
            refine g_aload X 0 dX9_tells_43 rfl ?_
            refine g_getI X w2 5 1 dX9_tells_45 (S_lt0 fw2) (S_kd0 fw2) (by decide) rfl iw_X6 (by decide) rfl q_fl_X9_205 ?_
            refine g_bipush X (v := 8) dX9_tells_48 (by decide) ?_
            refine g_icmp_eq X (tgt := 56) dX9_tells_50 (by decide) (fun c50 => ?_) (fun c50 => ?_)
            · have hf := it c50 hf
              refine g_iload_n X 4 dX9_tells_56 rfl rfl ?_
              refine g_if_ne X (tgt := 74) dX9_tells_57 (by decide) (fun c57 => ?_) (fun c57 => ?_)
              · have hf := ie c57 hf
                refine g_aload_n X 1 dX9_tells_74 rfl rfl ?_
                refine g_aload X 0 dX9_tells_75 rfl ?_
                refine g_iload_n X 3 dX9_tells_77 rfl rfl ?_
                refine g_iload_n X 4 dX9_tells_78 rfl rfl ?_
                obtain ⟨r79, m79, h79, hf⟩ := bi_i hf
                refine g_eVI X 0 8 [.ref (ad w2), .int p1, .int p2] kV_X9_210 (c_X9_couldBe fw2 h79) dX9_tells_79 rfl rfl (sgN (by decide)) rfl (by decide) rfl rfl ⟨(Nat.le_of_ble_eq_true rfl), (Nat.le_of_ble_eq_true rfl)⟩ ⟨rfl, rfl⟩ ⟨(Nat.zero_le _), (Nat.zero_le _)⟩ (Nat.le_of_ble_eq_true rfl) ?_
                obtain ⟨rfl, rfl⟩ := lf2 hf
                exact hret 82 _ dX9_tells_82 rfl
              · have hf := it c57 hf
                refine g_aload_n X 1 dX9_tells_60 rfl rfl ?_
                refine g_aload X 0 dX9_tells_61 rfl ?_
                refine g_aload_n X 1 dX9_tells_63 rfl rfl ?_
                refine g_getr X (x := ad 5) 0 8 1 dX9_tells_64 (sgN (by decide)) rfl (by decide) rfl iw_X9 (by decide) rfl q_fl_X9_19 rfl ?_
                refine g_iload_n X 3 dX9_tells_67 rfl rfl ?_
                obtain ⟨r68, m68, h68, hf⟩ := bi_i hf
                refine g_eVI X 0 8 [.ref (ad w2), .ref (ad 5), .int p1] kV_X9_206 (c_X9_firstOtherwise fw2 (by unfold isF; decide) h68) dX9_tells_68 rfl rfl (sgN (by decide)) rfl (by decide) rfl rfl ⟨(Nat.le_of_ble_eq_true rfl), (Nat.le_of_ble_eq_true rfl)⟩ ⟨rfl, rfl⟩ ⟨(Nat.zero_le _), (Nat.zero_le _)⟩ (Nat.le_of_ble_eq_true rfl) ?_
                refine g_goto X (tgt := 82) dX9_tells_71 (by decide) ?_
                obtain ⟨rfl, rfl⟩ := lf2 hf
                exact hret 82 _ dX9_tells_82 rfl
            · have hf := ie c50 hf
              refine g_bipush X (v := -2) dX9_tells_53 (by decide) ?_
              obtain ⟨rfl, rfl⟩ := lf2 hf
              exact hret 55 _ dX9_tells_55 rfl
          · have hf := ie c37 hf
            refine g_bipush X (v := -11) dX9_tells_40 (by decide) ?_
            obtain ⟨rfl, rfl⟩ := lf2 hf
            exact hret 42 _ dX9_tells_42 rfl
        · have hf := ie c26 hf
          refine g_bipush X (v := -2) dX9_tells_29 (by decide) ?_
          obtain ⟨rfl, rfl⟩ := lf2 hf
          exact hret 31 _ dX9_tells_31 rfl

theorem kV_X9_226 : wcV RX9 226 RX6 yX6_become cX6_become 3 (none) 2 := ⟨q_ml_X9_226, q_im_yX6_become, q_se_yX6_become, q_in_X6, q_co_yX6_become, by decide +kernel⟩

theorem kV_X9_229 : wcV RX9 229 RX6 yX6_put cX6_put 3 (none) 2 := ⟨q_ml_X9_229, q_im_yX6_put, q_se_yX6_put, q_in_X6, q_co_yX6_put, by decide +kernel⟩

def X9_film_34 (nt : Nat) (z : Nat → Nat) : Nat → Int32 → Nat → Int32 → Int32 → Mem → Option (Int32 × Mem)
  | 0, _, _, _, _, _ => none
  | n + 1, v2, xv3, v4, v5, m0 =>
    if (8 : Int32) ≤ v5 then
      some (v4, m0)
    else
      bi (X2_worth nt z 5 v2 v5 m0) fun r52 m52 =>
      bv (X6_put xv3 v5 r52 m52) fun m62 =>
      X9_film_34 nt z n v2 xv3 (v4 + r52) (v5 + (1 : Int32)) m62
def X9_film (nt : Nat) (z : Nat → Nat) (p0 : Int32) (p1 : Int32) (m0 : Mem) : Option (Int32 × Mem) :=
  bq (X9_sheetOf p0 m0) fun r2 m2 =>
  oq r2
    (some ((-2 : Int32), m2))
    (fun w2 =>
    bi (X9_isPerson p1 m2) fun r12 m12 =>
    if r12 = 0 then
      some ((-2 : Int32), m12)
    else
      bv (X6_become w2 (1 : Int32) (8 : Int32) m12) fun m25 =>
      X9_film_34 nt z 10000 p1 w2 (0 : Int32) (0 : Int32) m25)
abbrev rmX9_film : Room := { frames := 4, cells := 0, slots := 0, locals := 113 }
set_option maxRecDepth 100000 in
set_option maxHeartbeats 4000000 in
theorem w_X9_film_34 {Γ : Ga} {b : Nat} {ad : Nat → Nat} {nt : Nat} {z : Nat → Nat} {r9 : Int32} {m9 : Mem} (X : Cx Γ b cX9_film 7 RX9 (some .int) rmX9_film) (hret : ∀ (pc : Nat) (lv : List (Nat × Value)), decode cX9_film pc = .ok (.ireturn, 1) → narrow .int (.int r9) = .int r9 → Go Γ b (sg ad nt z) 0 0 pc lv [.int r9] m9) : ∀ (n : Nat) (v2 : Int32) (xv3 : Nat) (v4 : Int32) (v5 : Int32) (hxv3 : isS xv3) (m0 : Mem), X9_film_34 nt z n v2 xv3 v4 v5 m0 = some (r9, m9) → Go Γ b (sg ad nt z) 0 0 34 [(0, .ref (ad 0)), (2, .int v2), (3, .ref (ad xv3)), (4, .int v4), (5, .int v5)] [] m0 := by
  intro n
  induction n with
  | zero =>
    intro v2 xv3 v4 v5 hxv3 m0 hf
    cases hf
  | succ n ih =>
    intro v2 xv3 v4 v5 hxv3 m0 hf
    refine g_iload X 4 dX9_film_34 rfl ?_
    refine g_bipush X (v := 8) dX9_film_36 (by decide) ?_
    refine g_icmp_ge X (tgt := 78) dX9_film_38 (by decide) (fun c38 => ?_) (fun c38 => ?_)
    · have hf := it c38 hf
      refine g_iload X 3 dX9_film_78 rfl ?_
      obtain ⟨rfl, rfl⟩ := lf2 hf
      exact hret 80 _ dX9_film_80 rfl
    · have hf := ie c38 hf
      refine g_aload_n X 0 dX9_film_41 rfl rfl ?_
      refine g_getr X (x := ad 50) 0 8 8 dX9_film_42 (sgN (by decide)) rfl (by decide) rfl iw_X9 (by decide) rfl q_fl_X9_57 rfl ?_
      refine g_aload_n X 0 dX9_film_45 rfl rfl ?_
      refine g_getr X (x := ad 5) 0 8 1 dX9_film_46 (sgN (by decide)) rfl (by decide) rfl iw_X9 (by decide) rfl q_fl_X9_19 rfl ?_
      refine g_iload_n X 1 dX9_film_49 rfl rfl ?_
      refine g_iload X 4 dX9_film_50 rfl ?_
      obtain ⟨r52, m52, h52, hf⟩ := bi_i hf
      refine g_eVI X 50 1 [.ref (ad 5), .int v2, .int v5] kV_X9_129 (c_X2_worth (by unfold isF; decide) h52) dX9_film_52 rfl rfl (sgN (by decide)) rfl (by decide) rfl rfl ⟨(Nat.le_of_ble_eq_true rfl), (Nat.le_of_ble_eq_true rfl)⟩ ⟨rfl, rfl⟩ ⟨(Nat.zero_le _), (Nat.zero_le _)⟩ (Nat.le_of_ble_eq_true rfl) ?_
      refine g_istore X (lv' := [(6, .int r52), (0, .ref (ad 0)), (2, .int v2), (3, .ref (ad xv3)), (4, .int v4), (5, .int v5)]) dX9_film_55 (by decide) rfl ?_
      refine g_aload_n X 3 dX9_film_57 rfl rfl ?_
      refine g_iload X 5 dX9_film_58 rfl ?_
      refine g_iload X 0 dX9_film_60 rfl ?_
      obtain ⟨m62, h62, hf⟩ := bv_i hf
      refine g_eVV X xv3 5 [.int v5, .int r52] kV_X9_229 (c_X6_put hxv3 h62) dX9_film_62 rfl rfl (S_lt0 hxv3) (S_kd0 hxv3) (by decide) rfl rfl ⟨(Nat.le_of_ble_eq_true rfl), (Nat.le_of_ble_eq_true rfl)⟩ ⟨rfl, rfl⟩ ⟨(Nat.zero_le _), (Nat.zero_le _)⟩ (Nat.le_of_ble_eq_true rfl) ?_
      refine g_iload X 4 dX9_film_65 rfl ?_
      refine g_iload X 0 dX9_film_67 rfl ?_
      refine g_iadd X dX9_film_69 ?_
      refine g_istore X (lv' := [(4, .int (v4 + r52)), (6, .int r52), (0, .ref (ad 0)), (2, .int v2), (3, .ref (ad xv3)), (5, .int v5)]) dX9_film_70 (by decide) rfl ?_
      refine g_iinc X 5 (v := v5 + (1 : Int32)) (lv' := [(5, .int (v5 + (1 : Int32))), (4, .int (v4 + r52)), (6, .int r52), (0, .ref (ad 0)), (2, .int v2), (3, .ref (ad xv3))]) dX9_film_72 rfl rfl (by decide) rfl ?_
      refine g_goto X (tgt := 34) dX9_film_75 (by decide) ?_
      refine g_pick [3, 4, 5, 1, 0] (lv' := [(0, .ref (ad 0)), (2, .int v2), (3, .ref (ad xv3)), (4, .int (v4 + r52)), (5, .int (v5 + (1 : Int32)))]) rfl ?_
      exact ih v2 xv3 (v4 + r52) (v5 + (1 : Int32)) hxv3 m62 hf
set_option maxRecDepth 100000 in
set_option maxHeartbeats 4000000 in
theorem c_X9_film {l : Launch} {G : GG} {b : Nat} {ad : Nat → Nat} {nt : Nat} {z : Nat → Nat} {p0 : Int32} {p1 : Int32} {m0 : Mem} {r9 : Int32} {m9 : Mem} (hf : X9_film nt z p0 p1 m0 = some (r9, m9)) : MtI l yX9_film cX9_film 7 (some .int) rmX9_film G b (sg ad nt z) m0 [.ref (ad 0), .int p0, .int p1] (pEI r9 (sg ad nt z) m9) := by
  refine mtI_of (by decide) (Nat.le_of_ble_eq_true rfl) .int rfl (fun Γ hG X hnm hr => ?_)
  have hret : ∀ (pc : Nat) (lv : List (Nat × Value)), decode cX9_film pc = .ok (.ireturn, 1) → narrow .int (.int r9) = .int r9 → Go Γ b (sg ad nt z) 0 0 pc lv [.int r9] m9 := fun pc lv d hn => hr pc lv _ _ _ d ⟨rfl, rfl, rfl⟩ hn
  show Go Γ b (sg ad nt z) 0 0 0 [(0, .ref (ad 0)), (1, .int p0), (2, .int p1)] [] m0
  refine g_aload_n X 0 dX9_film_0 rfl rfl ?_
  refine g_iload_n X 1 dX9_film_1 rfl rfl ?_
  obtain ⟨r2, m2, h2, hf⟩ := bq_i hf
  have ok2 := shOk h2
  cases r2 with
  | none =>
    refine g_eVQ X 0 8 [.int p0] kV_X9_197 (c_X9_sheetOf h2) dX9_film_2 rfl rfl (sgN (by decide)) rfl (by decide) rfl rfl ⟨(Nat.le_of_ble_eq_true rfl), (Nat.le_of_ble_eq_true rfl)⟩ ⟨rfl, rfl⟩ ⟨(Nat.zero_le _), (Nat.zero_le _)⟩ (Nat.le_of_ble_eq_true rfl) ?_
    refine g_astore_nN X (lv' := [(3, .null), (0, .ref (ad 0)), (1, .int p0), (2, .int p1)]) dX9_film_5 rfl (by decide) rfl ?_
    refine g_aload_nN X 0 dX9_film_6 rfl rfl ?_
    refine g_ifnullN X (tgt := 18) dX9_film_7 (by decide) ?_
    refine g_bipush X (v := -2) dX9_film_18 (by decide) ?_
    obtain ⟨rfl, rfl⟩ := lf2 hf
    exact hret 20 _ dX9_film_20 rfl
  | some w2 =>
    have fw2 : isS w2 := ok2 _ rfl
    refine g_eVQ X 0 8 [.int p0] kV_X9_197 (c_X9_sheetOf h2) dX9_film_2 rfl rfl (sgN (by decide)) rfl (by decide) rfl rfl ⟨(Nat.le_of_ble_eq_true rfl), (Nat.le_of_ble_eq_true rfl)⟩ ⟨rfl, rfl⟩ ⟨(Nat.zero_le _), (Nat.zero_le _)⟩ (Nat.le_of_ble_eq_true rfl) ?_
    refine g_astore_n X (lv' := [(3, .ref (ad w2)), (0, .ref (ad 0)), (1, .int p0), (2, .int p1)]) dX9_film_5 rfl (by decide) rfl ?_
    refine g_aload_n X 0 dX9_film_6 rfl rfl ?_
    refine g_ifnull X dX9_film_7 ?_
    refine g_aload_n X 1 dX9_film_10 rfl rfl ?_
    refine g_iload_n X 3 dX9_film_11 rfl rfl ?_
    obtain ⟨r12, m12, h12, hf⟩ := bi_i hf
    refine g_eVI X 0 8 [.int p1] kV_X9_86 (c_X9_isPerson h12) dX9_film_12 rfl rfl (sgN (by decide)) rfl (by decide) rfl rfl ⟨(Nat.le_of_ble_eq_true rfl), (Nat.le_of_ble_eq_true rfl)⟩ ⟨rfl, rfl⟩ ⟨(Nat.zero_le _), (Nat.zero_le _)⟩ (Nat.le_of_ble_eq_true rfl) ?_
    refine g_if_ne X (tgt := 21) dX9_film_15 (by decide) (fun c15 => ?_) (fun c15 => ?_)
    · have hf := ie c15 hf
      refine g_aload_n X 0 dX9_film_21 rfl rfl ?_
      refine g_iconst X (v := 1) dX9_film_22 (by decide) ?_
      refine g_bipush X (v := 8) dX9_film_23 (by decide) ?_
      obtain ⟨m25, h25, hf⟩ := bv_i hf
      refine g_eVV X w2 5 [.int (1 : Int32), .int (8 : Int32)] kV_X9_226 (c_X6_become fw2 h25) dX9_film_25 rfl rfl (S_lt0 fw2) (S_kd0 fw2) (by decide) rfl rfl ⟨(Nat.le_of_ble_eq_true rfl), (Nat.le_of_ble_eq_true rfl)⟩ ⟨rfl, rfl⟩ ⟨(Nat.zero_le _), (Nat.zero_le _)⟩ (Nat.le_of_ble_eq_true rfl) ?_
      refine g_iconst X (v := 0) dX9_film_28 (by decide) ?_
      refine g_istore X (lv' := [(4, .int (0 : Int32)), (3, .ref (ad w2)), (0, .ref (ad 0)), (1, .int p0), (2, .int p1)]) dX9_film_29 (by decide) rfl ?_
      refine g_iconst X (v := 0) dX9_film_31 (by decide) ?_
      refine g_istore X (lv' := [(5, .int (0 : Int32)), (4, .int (0 : Int32)), (3, .ref (ad w2)), (0, .ref (ad 0)), (1, .int p0), (2, .int p1)]) dX9_film_32 (by decide) rfl ?_
      refine g_pick [3, 5, 2, 1, 0] (lv' := [(0, .ref (ad 0)), (2, .int p1), (3, .ref (ad w2)), (4, .int (0 : Int32)), (5, .int (0 : Int32))]) rfl ?_
      exact w_X9_film_34 X hret 10000 p1 w2 (0 : Int32) (0 : Int32) fw2 m25 hf
    · have hf := it c15 hf
      refine g_bipush X (v := -2) dX9_film_18 (by decide) ?_
      obtain ⟨rfl, rfl⟩ := lf2 hf
      exact hret 20 _ dX9_film_20 rfl

def X9_drawn_15 (nt : Nat) (z : Nat → Nat) : Nat → Int32 → Int32 → Mem → Option (Int32 × Mem)
  | 0, _, _, _ => none
  | n + 1, v2, v3, m0 =>
    if (m0.1 23 0) ≤ v3 then
      bi (X2_rounds nt z 23 (5 : Int32) (-1 : Int32) m0) fun r68 m68 =>
      bi (X0_ways 23 (-1 : Int32) m68) fun r77 m77 =>
      some (r77, m77)
    else
      if inn v3 6 then
      X9_drawn_15 nt z n ((v2 * (1103515245 : Int32)) + (12345 : Int32)) (v3 + (1 : Int32)) (pI m0 27 v3.toNatClampNeg (((((v2 * (1103515245 : Int32)) + (12345 : Int32)).toUInt32 >>> ((9 : Int32).toUInt32 &&& Int32.toUInt32 31)).toInt32) - ((((v2 * (1103515245 : Int32)) + (12345 : Int32)).toUInt32 >>> ((9 : Int32).toUInt32 &&& Int32.toUInt32 31)).toInt32) / (256 : Int32) * (256 : Int32)))
      else none
def X9_drawn (nt : Nat) (z : Nat → Nat) (p0 : Int32) (m0 : Mem) : Option (Int32 × Mem) :=
  bv (X0_become 23 5 m0) fun m8 =>
  X9_drawn_15 nt z 10000 p0 (0 : Int32) m8
abbrev rmX9_drawn : Room := { frames := 6, cells := 0, slots := 0, locals := 172 }
set_option maxRecDepth 100000 in
set_option maxHeartbeats 4000000 in
theorem w_X9_drawn_15 {Γ : Ga} {b : Nat} {ad : Nat → Nat} {nt : Nat} {z : Nat → Nat} {r9 : Int32} {m9 : Mem} (X : Cx Γ b cX9_drawn 4 RX9 (some .int) rmX9_drawn) (hret : ∀ (pc : Nat) (lv : List (Nat × Value)), decode cX9_drawn pc = .ok (.ireturn, 1) → narrow .int (.int r9) = .int r9 → Go Γ b (sg ad nt z) 0 0 pc lv [.int r9] m9) : ∀ (n : Nat) (v2 : Int32) (v3 : Int32) (m0 : Mem), X9_drawn_15 nt z n v2 v3 m0 = some (r9, m9) → Go Γ b (sg ad nt z) 0 0 15 [(0, .ref (ad 0)), (2, .int v2), (3, .int v3)] [] m0 := by
  intro n
  induction n with
  | zero =>
    intro v2 v3 m0 hf
    cases hf
  | succ n ih =>
    intro v2 v3 m0 hf
    refine g_iload_n X 2 dX9_drawn_15 rfl rfl ?_
    refine g_aload_n X 0 dX9_drawn_16 rfl rfl ?_
    refine g_getr X (x := ad 23) 0 8 5 dX9_drawn_17 (sgN (by decide)) rfl (by decide) rfl iw_X9 (by decide) rfl q_fl_X9_33 rfl ?_
    refine g_getI X 23 0 0 dX9_drawn_20 (sgN (by decide)) rfl (by decide) rfl iw_X0 (by decide) rfl q_fl_X9_165 ?_
    refine g_icmp_ge X (tgt := 58) dX9_drawn_23 (by decide) (fun c23 => ?_) (fun c23 => ?_)
    · have hf := it c23 hf
      refine g_aload_n X 0 dX9_drawn_58 rfl rfl ?_
      refine g_getr X (x := ad 50) 0 8 8 dX9_drawn_59 (sgN (by decide)) rfl (by decide) rfl iw_X9 (by decide) rfl q_fl_X9_57 rfl ?_
      refine g_aload_n X 0 dX9_drawn_62 rfl rfl ?_
      refine g_getr X (x := ad 23) 0 8 5 dX9_drawn_63 (sgN (by decide)) rfl (by decide) rfl iw_X9 (by decide) rfl q_fl_X9_33 rfl ?_
      refine g_iconst X (v := 5) dX9_drawn_66 (by decide) ?_
      refine g_iconst X (v := -1) dX9_drawn_67 (by decide) ?_
      obtain ⟨r68, m68, h68, hf⟩ := bi_i hf
      refine g_eVI X 50 1 [.ref (ad 23), .int (5 : Int32), .int (-1 : Int32)] kV_X9_162 (c_X2_rounds (by unfold isF; decide) h68) dX9_drawn_68 rfl rfl (sgN (by decide)) rfl (by decide) rfl rfl ⟨(Nat.le_of_ble_eq_true rfl), (Nat.le_of_ble_eq_true rfl)⟩ ⟨rfl, rfl⟩ ⟨(Nat.zero_le _), (Nat.zero_le _)⟩ (Nat.le_of_ble_eq_true rfl) ?_
      refine g_pop X dX9_drawn_71 rfl ?_
      refine g_aload_n X 0 dX9_drawn_72 rfl rfl ?_
      refine g_getr X (x := ad 23) 0 8 5 dX9_drawn_73 (sgN (by decide)) rfl (by decide) rfl iw_X9 (by decide) rfl q_fl_X9_33 rfl ?_
      refine g_iconst X (v := -1) dX9_drawn_76 (by decide) ?_
      obtain ⟨r77, m77, h77, hf⟩ := bi_i hf
      refine g_eVI X 23 0 [.int (-1 : Int32)] kV_X9_170 (c_X0_ways (by unfold isF; decide) h77) dX9_drawn_77 rfl rfl (sgN (by decide)) rfl (by decide) rfl rfl ⟨(Nat.le_of_ble_eq_true rfl), (Nat.le_of_ble_eq_true rfl)⟩ ⟨rfl, rfl⟩ ⟨(Nat.zero_le _), (Nat.zero_le _)⟩ (Nat.le_of_ble_eq_true rfl) ?_
      obtain ⟨rfl, rfl⟩ := lf2 hf
      exact hret 80 _ dX9_drawn_80 rfl
    · have hf := ie c23 hf
      refine g_iload_n X 1 dX9_drawn_26 rfl rfl ?_
      refine g_ldc X dX9_drawn_27 q_cn_X9_232 ?_
      refine g_imul X dX9_drawn_29 ?_
      refine g_sipush X (v := 12345) dX9_drawn_30 (by decide) ?_
      refine g_iadd X dX9_drawn_33 ?_
      refine g_istore_n X (lv' := [(2, .int ((v2 * (1103515245 : Int32)) + (12345 : Int32))), (0, .ref (ad 0)), (3, .int v3)]) dX9_drawn_34 rfl (by decide) rfl ?_
      refine g_aload_n X 1 dX9_drawn_35 rfl rfl ?_
      refine g_getr X (x := ad 23) 0 8 5 dX9_drawn_36 (sgN (by decide)) rfl (by decide) rfl iw_X9 (by decide) rfl q_fl_X9_33 rfl ?_
      refine g_getr X (x := ad 27) 23 0 6 dX9_drawn_39 (sgN (by decide)) rfl (by decide) rfl iw_X0 (by decide) rfl q_fl_X9_119 rfl ?_
      refine g_iload_n X 2 dX9_drawn_42 rfl rfl ?_
      refine g_iload_n X 0 dX9_drawn_43 rfl rfl ?_
      refine g_bipush X (v := 9) dX9_drawn_44 (by decide) ?_
      refine g_iushr X dX9_drawn_46 ?_
      refine g_sipush X (v := 256) dX9_drawn_47 (by decide) ?_
      refine g_irem X dX9_drawn_50 (by decide) ?_
      obtain ⟨h51, hf⟩ := grd hf
      refine g_iast X 27 (n := 6) dX9_drawn_51 (sgN (by decide)) rfl rfl h51 ?_
      refine g_iinc X 2 (v := v3 + (1 : Int32)) (lv' := [(3, .int (v3 + (1 : Int32))), (2, .int ((v2 * (1103515245 : Int32)) + (12345 : Int32))), (0, .ref (ad 0))]) dX9_drawn_52 rfl rfl (by decide) rfl ?_
      refine g_goto X (tgt := 15) dX9_drawn_55 (by decide) ?_
      refine g_pick [2, 1, 0] (lv' := [(0, .ref (ad 0)), (2, .int ((v2 * (1103515245 : Int32)) + (12345 : Int32))), (3, .int (v3 + (1 : Int32)))]) rfl ?_
      exact ih ((v2 * (1103515245 : Int32)) + (12345 : Int32)) (v3 + (1 : Int32)) (pI m0 27 v3.toNatClampNeg (((((v2 * (1103515245 : Int32)) + (12345 : Int32)).toUInt32 >>> ((9 : Int32).toUInt32 &&& Int32.toUInt32 31)).toInt32) - ((((v2 * (1103515245 : Int32)) + (12345 : Int32)).toUInt32 >>> ((9 : Int32).toUInt32 &&& Int32.toUInt32 31)).toInt32) / (256 : Int32) * (256 : Int32))) hf
set_option maxRecDepth 100000 in
set_option maxHeartbeats 4000000 in
theorem c_X9_drawn {l : Launch} {G : GG} {b : Nat} {ad : Nat → Nat} {nt : Nat} {z : Nat → Nat} {p0 : Int32} {m0 : Mem} {r9 : Int32} {m9 : Mem} (hf : X9_drawn nt z p0 m0 = some (r9, m9)) : MtI l yX9_drawn cX9_drawn 4 (some .int) rmX9_drawn G b (sg ad nt z) m0 [.ref (ad 0), .int p0] (pEI r9 (sg ad nt z) m9) := by
  refine mtI_of (by decide) (Nat.le_of_ble_eq_true rfl) .int rfl (fun Γ hG X hnm hr => ?_)
  have hret : ∀ (pc : Nat) (lv : List (Nat × Value)), decode cX9_drawn pc = .ok (.ireturn, 1) → narrow .int (.int r9) = .int r9 → Go Γ b (sg ad nt z) 0 0 pc lv [.int r9] m9 := fun pc lv d hn => hr pc lv _ _ _ d ⟨rfl, rfl, rfl⟩ hn
  show Go Γ b (sg ad nt z) 0 0 0 [(0, .ref (ad 0)), (1, .int p0)] [] m0
  refine g_aload_n X 0 dX9_drawn_0 rfl rfl ?_
  refine g_getr X (x := ad 23) 0 8 5 dX9_drawn_1 (sgN (by decide)) rfl (by decide) rfl iw_X9 (by decide) rfl q_fl_X9_33 rfl ?_
  refine g_aload_n X 0 dX9_drawn_4 rfl rfl ?_
  refine g_getr X (x := ad 5) 0 8 1 dX9_drawn_5 (sgN (by decide)) rfl (by decide) rfl iw_X9 (by decide) rfl q_fl_X9_19 rfl ?_
  obtain ⟨m8, h8, hf⟩ := bv_i hf
  refine g_eVV X 23 0 [.ref (ad 5)] kV_X9_166 (c_X0_become (by unfold isF; decide) (by unfold isF; decide) h8) dX9_drawn_8 rfl rfl (sgN (by decide)) rfl (by decide) rfl rfl ⟨(Nat.le_of_ble_eq_true rfl), (Nat.le_of_ble_eq_true rfl)⟩ ⟨rfl, rfl⟩ ⟨(Nat.zero_le _), (Nat.zero_le _)⟩ (Nat.le_of_ble_eq_true rfl) ?_
  refine g_iload_n X 1 dX9_drawn_11 rfl rfl ?_
  refine g_istore_n X (lv' := [(2, .int p0), (0, .ref (ad 0)), (1, .int p0)]) dX9_drawn_12 rfl (by decide) rfl ?_
  refine g_iconst X (v := 0) dX9_drawn_13 (by decide) ?_
  refine g_istore_n X (lv' := [(3, .int (0 : Int32)), (2, .int p0), (0, .ref (ad 0)), (1, .int p0)]) dX9_drawn_14 rfl (by decide) rfl ?_
  refine g_pick [2, 1, 0] (lv' := [(0, .ref (ad 0)), (2, .int p0), (3, .int (0 : Int32))]) rfl ?_
  exact w_X9_drawn_15 X hret 10000 p0 (0 : Int32) m8 hf

def X9_greatestDivisor_21 (k2 : Int32 → Int32 → Int32 → Mem → Option (Int32 × Mem)) (v0 : Int32) (v1 : Int32) (v2 : Int32) (m0 : Mem) : Option (Int32 × Mem) :=
  k2 v0 v1 (v2 + (-1 : Int32)) m0
def X9_greatestDivisor_2 : Nat → Int32 → Int32 → Int32 → Mem → Option (Int32 × Mem)
  | 0, _, _, _, _ => none
  | n + 1, v0, v1, v2, m0 =>
    if v2 ≤ (1 : Int32) then
      some ((1 : Int32), m0)
    else
      if ¬ v2 = 0 then
      if (v0 - v0 / v2 * v2) = 0 then
        if ¬ v2 = 0 then
        if (v1 - v1 / v2 * v2) = 0 then
          some (v2, m0)
        else
          X9_greatestDivisor_21 (X9_greatestDivisor_2 n) v0 v1 v2 m0
        else none
      else
        X9_greatestDivisor_21 (X9_greatestDivisor_2 n) v0 v1 v2 m0
      else none
def X9_greatestDivisor (p0 : Int32) (p1 : Int32) (m0 : Mem) : Option (Int32 × Mem) :=
  X9_greatestDivisor_2 10000 p0 p1 p1 m0
abbrev rmX9_greatestDivisor : Room := { frames := 0, cells := 0, slots := 0, locals := 0 }
set_option maxRecDepth 100000 in
set_option maxHeartbeats 4000000 in
theorem w_X9_greatestDivisor_21 {Γ : Ga} {b : Nat} {ad : Nat → Nat} {nt : Nat} {z : Nat → Nat} {k2 : Int32 → Int32 → Int32 → Mem → Option (Int32 × Mem)} {r9 : Int32} {m9 : Mem} (X : Cx Γ b cX9_greatestDivisor 3 RX9 (some .int) rmX9_greatestDivisor) (hret : ∀ (pc : Nat) (lv : List (Nat × Value)), decode cX9_greatestDivisor pc = .ok (.ireturn, 1) → narrow .int (.int r9) = .int r9 → Go Γ b (sg ad nt z) 0 0 pc lv [.int r9] m9) (hk2 : ∀ (v0 : Int32) (v1 : Int32) (v2 : Int32) (m0 : Mem), k2 v0 v1 v2 m0 = some (r9, m9) → Go Γ b (sg ad nt z) 0 0 2 [(0, .int v0), (1, .int v1), (2, .int v2)] [] m0) (v0 : Int32) (v1 : Int32) (v2 : Int32) (m0 : Mem) (hf : X9_greatestDivisor_21 k2 v0 v1 v2 m0 = some (r9, m9)) : Go Γ b (sg ad nt z) 0 0 21 [(0, .int v0), (1, .int v1), (2, .int v2)] [] m0 := by
  refine g_iinc X 2 (v := v2 + (-1 : Int32)) (lv' := [(2, .int (v2 + (-1 : Int32))), (0, .int v0), (1, .int v1)]) dX9_greatestDivisor_21 rfl rfl (by decide) rfl ?_
  refine g_goto X (tgt := 2) dX9_greatestDivisor_24 (by decide) ?_
  refine g_pick [1, 2, 0] (lv' := [(0, .int v0), (1, .int v1), (2, .int (v2 + (-1 : Int32)))]) rfl ?_
  exact hk2 v0 v1 (v2 + (-1 : Int32)) m0 hf
set_option maxRecDepth 100000 in
set_option maxHeartbeats 4000000 in
theorem w_X9_greatestDivisor_2 {Γ : Ga} {b : Nat} {ad : Nat → Nat} {nt : Nat} {z : Nat → Nat} {r9 : Int32} {m9 : Mem} (X : Cx Γ b cX9_greatestDivisor 3 RX9 (some .int) rmX9_greatestDivisor) (hret : ∀ (pc : Nat) (lv : List (Nat × Value)), decode cX9_greatestDivisor pc = .ok (.ireturn, 1) → narrow .int (.int r9) = .int r9 → Go Γ b (sg ad nt z) 0 0 pc lv [.int r9] m9) : ∀ (n : Nat) (v0 : Int32) (v1 : Int32) (v2 : Int32) (m0 : Mem), X9_greatestDivisor_2 n v0 v1 v2 m0 = some (r9, m9) → Go Γ b (sg ad nt z) 0 0 2 [(0, .int v0), (1, .int v1), (2, .int v2)] [] m0 := by
  intro n
  induction n with
  | zero =>
    intro v0 v1 v2 m0 hf
    cases hf
  | succ n ih =>
    intro v0 v1 v2 m0 hf
    refine g_iload_n X 2 dX9_greatestDivisor_2 rfl rfl ?_
    refine g_iconst X (v := 1) dX9_greatestDivisor_3 (by decide) ?_
    refine g_icmp_le X (tgt := 27) dX9_greatestDivisor_4 (by decide) (fun c4 => ?_) (fun c4 => ?_)
    · have hf := it c4 hf
      refine g_iconst X (v := 1) dX9_greatestDivisor_27 (by decide) ?_
      obtain ⟨rfl, rfl⟩ := lf2 hf
      exact hret 28 _ dX9_greatestDivisor_28 rfl
    · have hf := ie c4 hf
      refine g_iload_n X 0 dX9_greatestDivisor_7 rfl rfl ?_
      refine g_iload_n X 2 dX9_greatestDivisor_8 rfl rfl ?_
      obtain ⟨h9, hf⟩ := grd hf
      refine g_irem X dX9_greatestDivisor_9 h9 ?_
      refine g_if_ne X (tgt := 21) dX9_greatestDivisor_10 (by decide) (fun c10 => ?_) (fun c10 => ?_)
      · have hf := ie c10 hf
        exact w_X9_greatestDivisor_21 X hret ih v0 v1 v2 m0 hf
      · have hf := it c10 hf
        refine g_iload_n X 1 dX9_greatestDivisor_13 rfl rfl ?_
        refine g_iload_n X 2 dX9_greatestDivisor_14 rfl rfl ?_
        obtain ⟨h15, hf⟩ := grd hf
        refine g_irem X dX9_greatestDivisor_15 h15 ?_
        refine g_if_ne X (tgt := 21) dX9_greatestDivisor_16 (by decide) (fun c16 => ?_) (fun c16 => ?_)
        · have hf := ie c16 hf
          exact w_X9_greatestDivisor_21 X hret ih v0 v1 v2 m0 hf
        · have hf := it c16 hf
          refine g_iload_n X 2 dX9_greatestDivisor_19 rfl rfl ?_
          obtain ⟨rfl, rfl⟩ := lf2 hf
          exact hret 20 _ dX9_greatestDivisor_20 rfl
set_option maxRecDepth 100000 in
set_option maxHeartbeats 4000000 in
theorem c_X9_greatestDivisor {l : Launch} {G : GG} {b : Nat} {ad : Nat → Nat} {nt : Nat} {z : Nat → Nat} {p0 : Int32} {p1 : Int32} {m0 : Mem} {r9 : Int32} {m9 : Mem} (hf : X9_greatestDivisor p0 p1 m0 = some (r9, m9)) : MtI l yX9_greatestDivisor cX9_greatestDivisor 3 (some .int) rmX9_greatestDivisor G b (sg ad nt z) m0 [.int p0, .int p1] (pEI r9 (sg ad nt z) m9) := by
  refine mtI_of (by decide) (Nat.le_of_ble_eq_true rfl) .int rfl (fun Γ hG X hnm hr => ?_)
  have hret : ∀ (pc : Nat) (lv : List (Nat × Value)), decode cX9_greatestDivisor pc = .ok (.ireturn, 1) → narrow .int (.int r9) = .int r9 → Go Γ b (sg ad nt z) 0 0 pc lv [.int r9] m9 := fun pc lv d hn => hr pc lv _ _ _ d ⟨rfl, rfl, rfl⟩ hn
  show Go Γ b (sg ad nt z) 0 0 0 [(0, .int p0), (1, .int p1)] [] m0
  refine g_iload_n X 1 dX9_greatestDivisor_0 rfl rfl ?_
  refine g_istore_n X (lv' := [(2, .int p1), (0, .int p0), (1, .int p1)]) dX9_greatestDivisor_1 rfl (by decide) rfl ?_
  refine g_pick [1, 2, 0] (lv' := [(0, .int p0), (1, .int p1), (2, .int p1)]) rfl ?_
  exact w_X9_greatestDivisor_2 X hret 10000 p0 p1 p1 m0 hf

theorem kS_X9_238 : wcS RX9 238 yX9_greatestDivisor cX9_greatestDivisor 3 (some .int) 2 := ⟨q_ml_X9_238, q_st_yX9_greatestDivisor, q_in_X9, q_co_yX9_greatestDivisor, by decide +kernel⟩

theorem kV_X9_235 : wcV RX9 235 RX9 yX9_drawn cX9_drawn 4 (some .int) 1 := ⟨q_ml_X9_235, q_im_yX9_drawn, q_se_yX9_drawn, q_in_X9, q_co_yX9_drawn, by decide +kernel⟩

def X9_chance_63 (nt : Nat) (z : Nat → Nat) (k42 : Int32 → Int32 → Int32 → Int32 → Int32 → Int32 → Mem → Option (Int64 × Mem)) (v1 : Int32) (v2 : Int32) (v3 : Int32) (v4 : Int32) (v5 : Int32) (v6 : Int32) (m0 : Mem) : Option (Int64 × Mem) :=
  k42 v1 v2 v3 v4 v5 (v6 + (1 : Int32)) m0
def X9_chance_42 (nt : Nat) (z : Nat → Nat) : Nat → Int32 → Int32 → Int32 → Int32 → Int32 → Int32 → Mem → Option (Int64 × Mem)
  | 0, _, _, _, _, _, _, _ => none
  | n + 1, v1, v2, v3, v4, v5, v6, m0 =>
    if v2 ≤ v6 then
      bi (X9_greatestDivisor v5 v2 m0) fun r72 m72 =>
      if v4 = 0 then
        if ¬ r72 = 0 then
        some ((v5 / r72).toInt64, m72)
        else none
      else
        if ¬ r72 = 0 then
        some ((v2 / r72).toInt64, m72)
        else none
    else
      bi (X9_drawn nt z (v1 + v6) m0) fun r53 m53 =>
      if r53 < v3 then
        X9_chance_63 nt z (X9_chance_42 nt z n) v1 v2 v3 v4 v5 v6 m53
      else
        X9_chance_63 nt z (X9_chance_42 nt z n) v1 v2 v3 v4 (v5 + (1 : Int32)) v6 m53
def X9_chance (nt : Nat) (z : Nat → Nat) (p0 : Int32) (p1 : Int32) (p2 : Int32) (p3 : Int32) (m0 : Mem) : Option (Int64 × Mem) :=
  if p1 < (1 : Int32) then
    some ((-4611686018427387904 : Int64), m0)
  else
    if (20 : Int32) < p1 then
      some ((-4611686018427387904 : Int64), m0)
    else
      if p2 < 0 then
        some ((-4611686018427387904 : Int64), m0)
      else
        if (48 : Int32) < p2 then
          some ((-4611686018427387904 : Int64), m0)
        else
          if p3 < 0 then
            some ((-4611686018427387904 : Int64), m0)
          else
            if p3 ≤ (1 : Int32) then
              X9_chance_42 nt z 10000 p0 p1 p2 p3 (0 : Int32) (0 : Int32) m0
            else
              some ((-4611686018427387904 : Int64), m0)
abbrev rmX9_chance : Room := { frames := 7, cells := 0, slots := 0, locals := 195 }
set_option maxRecDepth 100000 in
set_option maxHeartbeats 4000000 in
theorem w_X9_chance_63 {Γ : Ga} {b : Nat} {ad : Nat → Nat} {nt : Nat} {z : Nat → Nat} {k42 : Int32 → Int32 → Int32 → Int32 → Int32 → Int32 → Mem → Option (Int64 × Mem)} {r9 : Int64} {m9 : Mem} (X : Cx Γ b cX9_chance 7 RX9 (some .long) rmX9_chance) (hret : ∀ (pc : Nat) (lv : List (Nat × Value)), decode cX9_chance pc = .ok (.lreturn, 1) → Go Γ b (sg ad nt z) 0 0 pc lv [.long r9] m9) (hk42 : ∀ (v1 : Int32) (v2 : Int32) (v3 : Int32) (v4 : Int32) (v5 : Int32) (v6 : Int32) (m0 : Mem), k42 v1 v2 v3 v4 v5 v6 m0 = some (r9, m9) → Go Γ b (sg ad nt z) 0 0 42 [(0, .ref (ad 0)), (1, .int v1), (2, .int v2), (3, .int v3), (4, .int v4), (5, .int v5), (6, .int v6)] [] m0) (v1 : Int32) (v2 : Int32) (v3 : Int32) (v4 : Int32) (v5 : Int32) (v6 : Int32) (m0 : Mem) (hf : X9_chance_63 nt z k42 v1 v2 v3 v4 v5 v6 m0 = some (r9, m9)) : Go Γ b (sg ad nt z) 0 0 63 [(0, .ref (ad 0)), (1, .int v1), (2, .int v2), (3, .int v3), (4, .int v4), (5, .int v5), (6, .int v6)] [] m0 := by
  refine g_iinc X 6 (v := v6 + (1 : Int32)) (lv' := [(6, .int (v6 + (1 : Int32))), (0, .ref (ad 0)), (1, .int v1), (2, .int v2), (3, .int v3), (4, .int v4), (5, .int v5)]) dX9_chance_63 rfl rfl (by decide) rfl ?_
  refine g_goto X (tgt := 42) dX9_chance_66 (by decide) ?_
  refine g_pick [1, 2, 3, 4, 5, 6, 0] (lv' := [(0, .ref (ad 0)), (1, .int v1), (2, .int v2), (3, .int v3), (4, .int v4), (5, .int v5), (6, .int (v6 + (1 : Int32)))]) rfl ?_
  exact hk42 v1 v2 v3 v4 v5 (v6 + (1 : Int32)) m0 hf
set_option maxRecDepth 100000 in
set_option maxHeartbeats 4000000 in
theorem w_X9_chance_42 {Γ : Ga} {b : Nat} {ad : Nat → Nat} {nt : Nat} {z : Nat → Nat} {r9 : Int64} {m9 : Mem} (X : Cx Γ b cX9_chance 7 RX9 (some .long) rmX9_chance) (hret : ∀ (pc : Nat) (lv : List (Nat × Value)), decode cX9_chance pc = .ok (.lreturn, 1) → Go Γ b (sg ad nt z) 0 0 pc lv [.long r9] m9) : ∀ (n : Nat) (v1 : Int32) (v2 : Int32) (v3 : Int32) (v4 : Int32) (v5 : Int32) (v6 : Int32) (m0 : Mem), X9_chance_42 nt z n v1 v2 v3 v4 v5 v6 m0 = some (r9, m9) → Go Γ b (sg ad nt z) 0 0 42 [(0, .ref (ad 0)), (1, .int v1), (2, .int v2), (3, .int v3), (4, .int v4), (5, .int v5), (6, .int v6)] [] m0 := by
  intro n
  induction n with
  | zero =>
    intro v1 v2 v3 v4 v5 v6 m0 hf
    cases hf
  | succ n ih =>
    intro v1 v2 v3 v4 v5 v6 m0 hf
    refine g_iload X 6 dX9_chance_42 rfl ?_
    refine g_iload_n X 2 dX9_chance_44 rfl rfl ?_
    refine g_icmp_ge X (tgt := 69) dX9_chance_45 (by decide) (fun c45 => ?_) (fun c45 => ?_)
    · have hf := it c45 hf
      refine g_iload X 5 dX9_chance_69 rfl ?_
      refine g_iload_n X 2 dX9_chance_71 rfl rfl ?_
      obtain ⟨r72, m72, h72, hf⟩ := bi_i hf
      refine g_eSI X [.int v5, .int v2] kS_X9_238 (c_X9_greatestDivisor h72) dX9_chance_72 rfl rfl ⟨(Nat.le_of_ble_eq_true rfl), (Nat.le_of_ble_eq_true rfl)⟩ ⟨rfl, rfl⟩ ⟨(Nat.zero_le _), (Nat.zero_le _)⟩ (Nat.le_of_ble_eq_true rfl) ?_
      refine g_istore X (lv' := [(6, .int r72), (0, .ref (ad 0)), (1, .int v1), (2, .int v2), (3, .int v3), (4, .int v4), (5, .int v5)]) dX9_chance_75 (by decide) rfl ?_
      refine g_iload X 5 dX9_chance_77 rfl ?_
      refine g_if_ne X (tgt := 91) dX9_chance_79 (by decide) (fun c79 => ?_) (fun c79 => ?_)
      · have hf := ie c79 hf
        refine g_iload_n X 3 dX9_chance_91 rfl rfl ?_
        refine g_iload X 0 dX9_chance_92 rfl ?_
        obtain ⟨h94, hf⟩ := grd hf
        refine g_idiv X dX9_chance_94 h94 ?_
        refine g_i2l X dX9_chance_95 ?_
        obtain ⟨rfl, rfl⟩ := lf2 hf
        exact hret 96 _ dX9_chance_96
      · have hf := it c79 hf
        refine g_iload X 6 dX9_chance_82 rfl ?_
        refine g_iload X 0 dX9_chance_84 rfl ?_
        obtain ⟨h86, hf⟩ := grd hf
        refine g_idiv X dX9_chance_86 h86 ?_
        refine g_i2l X dX9_chance_87 ?_
        refine g_goto X (tgt := 96) dX9_chance_88 (by decide) ?_
        obtain ⟨rfl, rfl⟩ := lf2 hf
        exact hret 96 _ dX9_chance_96
    · have hf := ie c45 hf
      refine g_aload_n X 0 dX9_chance_48 rfl rfl ?_
      refine g_iload_n X 1 dX9_chance_49 rfl rfl ?_
      refine g_iload X 6 dX9_chance_50 rfl ?_
      refine g_iadd X dX9_chance_52 ?_
      obtain ⟨r53, m53, h53, hf⟩ := bi_i hf
      refine g_eVI X 0 8 [.int (v1 + v6)] kV_X9_235 (c_X9_drawn h53) dX9_chance_53 rfl rfl (sgN (by decide)) rfl (by decide) rfl rfl ⟨(Nat.le_of_ble_eq_true rfl), (Nat.le_of_ble_eq_true rfl)⟩ ⟨rfl, rfl⟩ ⟨(Nat.zero_le _), (Nat.zero_le _)⟩ (Nat.le_of_ble_eq_true rfl) ?_
      refine g_iload_n X 3 dX9_chance_56 rfl rfl ?_
      refine g_icmp_lt X (tgt := 63) dX9_chance_57 (by decide) (fun c57 => ?_) (fun c57 => ?_)
      · have hf := it c57 hf
        exact w_X9_chance_63 X hret ih v1 v2 v3 v4 v5 v6 m53 hf
      · have hf := ie c57 hf
        refine g_iinc X 5 (v := v5 + (1 : Int32)) (lv' := [(5, .int (v5 + (1 : Int32))), (0, .ref (ad 0)), (1, .int v1), (2, .int v2), (3, .int v3), (4, .int v4), (6, .int v6)]) dX9_chance_60 rfl rfl (by decide) rfl ?_
        refine g_pick [1, 2, 3, 4, 5, 0, 6] (lv' := [(0, .ref (ad 0)), (1, .int v1), (2, .int v2), (3, .int v3), (4, .int v4), (5, .int (v5 + (1 : Int32))), (6, .int v6)]) rfl ?_
        exact w_X9_chance_63 X hret ih v1 v2 v3 v4 (v5 + (1 : Int32)) v6 m53 hf
set_option maxRecDepth 100000 in
set_option maxHeartbeats 4000000 in
theorem c_X9_chance {l : Launch} {G : GG} {b : Nat} {ad : Nat → Nat} {nt : Nat} {z : Nat → Nat} {p0 : Int32} {p1 : Int32} {p2 : Int32} {p3 : Int32} {m0 : Mem} {r9 : Int64} {m9 : Mem} (hf : X9_chance nt z p0 p1 p2 p3 m0 = some (r9, m9)) : MtL l yX9_chance cX9_chance 7 (some .long) rmX9_chance G b (sg ad nt z) m0 [.ref (ad 0), .int p0, .int p1, .int p2, .int p3] (pEL r9 (sg ad nt z) m9) := by
  refine mtL_of (by decide) (Nat.le_of_ble_eq_true rfl) rfl (fun Γ hG X hnm hr => ?_)
  have hret : ∀ (pc : Nat) (lv : List (Nat × Value)), decode cX9_chance pc = .ok (.lreturn, 1) → Go Γ b (sg ad nt z) 0 0 pc lv [.long r9] m9 := fun pc lv d => hr pc lv _ _ _ d ⟨rfl, rfl, rfl⟩
  show Go Γ b (sg ad nt z) 0 0 0 [(0, .ref (ad 0)), (1, .int p0), (2, .int p1), (3, .int p2), (4, .int p3)] [] m0
  refine g_iload_n X 2 dX9_chance_0 rfl rfl ?_
  refine g_iconst X (v := 1) dX9_chance_1 (by decide) ?_
  refine g_icmp_lt X (tgt := 32) dX9_chance_2 (by decide) (fun c2 => ?_) (fun c2 => ?_)
  · have hf := it c2 hf
    refine g_ldc2 X dX9_chance_32 q_cl_X9_233 ?_
    obtain ⟨rfl, rfl⟩ := lf2 hf
    exact hret 35 _ dX9_chance_35
  · have hf := ie c2 hf
    refine g_iload_n X 2 dX9_chance_5 rfl rfl ?_
    refine g_bipush X (v := 20) dX9_chance_6 (by decide) ?_
    refine g_icmp_gt X (tgt := 32) dX9_chance_8 (by decide) (fun c8 => ?_) (fun c8 => ?_)
    · have hf := it c8 hf
      refine g_ldc2 X dX9_chance_32 q_cl_X9_233 ?_
      obtain ⟨rfl, rfl⟩ := lf2 hf
      exact hret 35 _ dX9_chance_35
    · have hf := ie c8 hf
      refine g_iload_n X 3 dX9_chance_11 rfl rfl ?_
      refine g_if_lt X (tgt := 32) dX9_chance_12 (by decide) (fun c12 => ?_) (fun c12 => ?_)
      · have hf := it c12 hf
        refine g_ldc2 X dX9_chance_32 q_cl_X9_233 ?_
        obtain ⟨rfl, rfl⟩ := lf2 hf
        exact hret 35 _ dX9_chance_35
      · have hf := ie c12 hf
        refine g_iload_n X 3 dX9_chance_15 rfl rfl ?_
        refine g_bipush X (v := 48) dX9_chance_16 (by decide) ?_
        refine g_icmp_gt X (tgt := 32) dX9_chance_18 (by decide) (fun c18 => ?_) (fun c18 => ?_)
        · have hf := it c18 hf
          refine g_ldc2 X dX9_chance_32 q_cl_X9_233 ?_
          obtain ⟨rfl, rfl⟩ := lf2 hf
          exact hret 35 _ dX9_chance_35
        · have hf := ie c18 hf
          refine g_iload X 4 dX9_chance_21 rfl ?_
          refine g_if_lt X (tgt := 32) dX9_chance_23 (by decide) (fun c23 => ?_) (fun c23 => ?_)
          · have hf := it c23 hf
            refine g_ldc2 X dX9_chance_32 q_cl_X9_233 ?_
            obtain ⟨rfl, rfl⟩ := lf2 hf
            exact hret 35 _ dX9_chance_35
          · have hf := ie c23 hf
            refine g_iload X 4 dX9_chance_26 rfl ?_
            refine g_iconst X (v := 1) dX9_chance_28 (by decide) ?_
            refine g_icmp_le X (tgt := 36) dX9_chance_29 (by decide) (fun c29 => ?_) (fun c29 => ?_)
            · have hf := it c29 hf
              refine g_iconst X (v := 0) dX9_chance_36 (by decide) ?_
              refine g_istore X (lv' := [(5, .int (0 : Int32)), (0, .ref (ad 0)), (1, .int p0), (2, .int p1), (3, .int p2), (4, .int p3)]) dX9_chance_37 (by decide) rfl ?_
              refine g_iconst X (v := 0) dX9_chance_39 (by decide) ?_
              refine g_istore X (lv' := [(6, .int (0 : Int32)), (5, .int (0 : Int32)), (0, .ref (ad 0)), (1, .int p0), (2, .int p1), (3, .int p2), (4, .int p3)]) dX9_chance_40 (by decide) rfl ?_
              refine g_pick [2, 3, 4, 5, 6, 1, 0] (lv' := [(0, .ref (ad 0)), (1, .int p0), (2, .int p1), (3, .int p2), (4, .int p3), (5, .int (0 : Int32)), (6, .int (0 : Int32))]) rfl ?_
              exact w_X9_chance_42 X hret 10000 p0 p1 p2 p3 (0 : Int32) (0 : Int32) m0 hf
            · have hf := ie c29 hf
              refine g_ldc2 X dX9_chance_32 q_cl_X9_233 ?_
              obtain ⟨rfl, rfl⟩ := lf2 hf
              exact hret 35 _ dX9_chance_35

theorem kV_X9_241 : wcV RX9 241 RX4 yX4_become cX4_become 2 (none) 1 := ⟨q_ml_X9_241, q_im_yX4_become, q_se_yX4_become, q_in_X4, q_co_yX4_become, by decide +kernel⟩

def X9_image (m0 : Mem) : Option (Int32 × Mem) :=
  bv (X4_becomeK m0) fun m8 =>
  bv (X0_become 16 5 m8) fun m19 =>
  some ((pI m19 0 4 (1 : Int32)).1 5 0, pI m19 0 4 (1 : Int32))
abbrev rmX9_image : Room := { frames := 2, cells := 0, slots := 0, locals := 81 }

set_option maxRecDepth 100000 in
set_option maxHeartbeats 4000000 in
theorem c_X9_image {l : Launch} {G : GG} {b : Nat} {ad : Nat → Nat} {nt : Nat} {z : Nat → Nat} {m0 : Mem} {r9 : Int32} {m9 : Mem} (hf : X9_image m0 = some (r9, m9)) : MtI l yX9_image cX9_image 1 (some .int) rmX9_image G b (sg ad nt z) m0 [.ref (ad 0)] (pEI r9 (sg ad nt z) m9) := by
  refine mtI_of (by decide) (Nat.le_of_ble_eq_true rfl) .int rfl (fun Γ hG X hnm hr => ?_)
  have hret : ∀ (pc : Nat) (lv : List (Nat × Value)), decode cX9_image pc = .ok (.ireturn, 1) → narrow .int (.int r9) = .int r9 → Go Γ b (sg ad nt z) 0 0 pc lv [.int r9] m9 := fun pc lv d hn => hr pc lv _ _ _ d ⟨rfl, rfl, rfl⟩ hn
  show Go Γ b (sg ad nt z) 0 0 0 [(0, .ref (ad 0))] [] m0
  refine g_aload_n X 0 dX9_image_0 rfl rfl ?_
  refine g_getr X (x := ad 12) 0 8 2 dX9_image_1 (sgN (by decide)) rfl (by decide) rfl iw_X9 (by decide) rfl q_fl_X9_23 rfl ?_
  refine g_aload_n X 0 dX9_image_4 rfl rfl ?_
  refine g_getr X (x := ad 1) 0 8 0 dX9_image_5 (sgN (by decide)) rfl (by decide) rfl iw_X9 (by decide) rfl q_fl_X9_10 rfl ?_
  obtain ⟨m8, h8, hf⟩ := bv_i hf
  refine g_eVV X 12 3 [.ref (ad 1)] kV_X9_241 (c_X4_becomeK h8) dX9_image_8 rfl rfl (sgN (by decide)) rfl (by decide) rfl rfl ⟨(Nat.le_of_ble_eq_true rfl), (Nat.le_of_ble_eq_true rfl)⟩ ⟨rfl, rfl⟩ ⟨(Nat.zero_le _), (Nat.zero_le _)⟩ (Nat.le_of_ble_eq_true rfl) ?_
  refine g_aload_n X 0 dX9_image_11 rfl rfl ?_
  refine g_getr X (x := ad 16) 0 8 3 dX9_image_12 (sgN (by decide)) rfl (by decide) rfl iw_X9 (by decide) rfl q_fl_X9_26 rfl ?_
  refine g_aload_n X 0 dX9_image_15 rfl rfl ?_
  refine g_getr X (x := ad 5) 0 8 1 dX9_image_16 (sgN (by decide)) rfl (by decide) rfl iw_X9 (by decide) rfl q_fl_X9_19 rfl ?_
  obtain ⟨m19, h19, hf⟩ := bv_i hf
  refine g_eVV X 16 0 [.ref (ad 5)] kV_X9_166 (c_X0_become (by unfold isF; decide) (by unfold isF; decide) h19) dX9_image_19 rfl rfl (sgN (by decide)) rfl (by decide) rfl rfl ⟨(Nat.le_of_ble_eq_true rfl), (Nat.le_of_ble_eq_true rfl)⟩ ⟨rfl, rfl⟩ ⟨(Nat.zero_le _), (Nat.zero_le _)⟩ (Nat.le_of_ble_eq_true rfl) ?_
  refine g_aload_n X 0 dX9_image_22 rfl rfl ?_
  refine g_iconst X (v := 1) dX9_image_23 (by decide) ?_
  refine g_putI X (tyf := tyX9) 0 8 4 dX9_image_24 (sgN (by decide)) rfl (by decide) rfl iw_X9 (by decide) rfl q_fl_X9_29 tyX9_ok nmX9 rfl rfl rfl ?_
  refine g_aload_n X 0 dX9_image_27 rfl rfl ?_
  refine g_getr X (x := ad 5) 0 8 1 dX9_image_28 (sgN (by decide)) rfl (by decide) rfl iw_X9 (by decide) rfl q_fl_X9_19 rfl ?_
  refine g_getI X 5 0 0 dX9_image_31 (sgN (by decide)) rfl (by decide) rfl iw_X0 (by decide) rfl q_fl_X9_165 ?_
  obtain ⟨rfl, rfl⟩ := lf2 hf
  exact hret 34 _ dX9_image_34 rfl

def X9_back (m0 : Mem) : Option (Int32 × Mem) :=
  if (m0.1 0 4) = 0 then
    some ((-3 : Int32), m0)
  else
    bv (X4_becomeB m0) fun m18 =>
    bv (X0_become 5 16 m18) fun m29 =>
    some (m29.1 5 0, m29)
abbrev rmX9_back : Room := { frames := 2, cells := 0, slots := 0, locals := 81 }

set_option maxRecDepth 100000 in
set_option maxHeartbeats 4000000 in
theorem c_X9_back {l : Launch} {G : GG} {b : Nat} {ad : Nat → Nat} {nt : Nat} {z : Nat → Nat} {m0 : Mem} {r9 : Int32} {m9 : Mem} (hf : X9_back m0 = some (r9, m9)) : MtI l yX9_back cX9_back 1 (some .int) rmX9_back G b (sg ad nt z) m0 [.ref (ad 0)] (pEI r9 (sg ad nt z) m9) := by
  refine mtI_of (by decide) (Nat.le_of_ble_eq_true rfl) .int rfl (fun Γ hG X hnm hr => ?_)
  have hret : ∀ (pc : Nat) (lv : List (Nat × Value)), decode cX9_back pc = .ok (.ireturn, 1) → narrow .int (.int r9) = .int r9 → Go Γ b (sg ad nt z) 0 0 pc lv [.int r9] m9 := fun pc lv d hn => hr pc lv _ _ _ d ⟨rfl, rfl, rfl⟩ hn
  show Go Γ b (sg ad nt z) 0 0 0 [(0, .ref (ad 0))] [] m0
  refine g_aload_n X 0 dX9_back_0 rfl rfl ?_
  refine g_getI X 0 8 4 dX9_back_1 (sgN (by decide)) rfl (by decide) rfl iw_X9 (by decide) rfl q_fl_X9_29 ?_
  refine g_if_ne X (tgt := 10) dX9_back_4 (by decide) (fun c4 => ?_) (fun c4 => ?_)
  · have hf := ie c4 hf
    refine g_aload_n X 0 dX9_back_10 rfl rfl ?_
    refine g_getr X (x := ad 1) 0 8 0 dX9_back_11 (sgN (by decide)) rfl (by decide) rfl iw_X9 (by decide) rfl q_fl_X9_10 rfl ?_
    refine g_aload_n X 0 dX9_back_14 rfl rfl ?_
    refine g_getr X (x := ad 12) 0 8 2 dX9_back_15 (sgN (by decide)) rfl (by decide) rfl iw_X9 (by decide) rfl q_fl_X9_23 rfl ?_
    obtain ⟨m18, h18, hf⟩ := bv_i hf
    refine g_eVV X 1 3 [.ref (ad 12)] kV_X9_241 (c_X4_becomeB h18) dX9_back_18 rfl rfl (sgN (by decide)) rfl (by decide) rfl rfl ⟨(Nat.le_of_ble_eq_true rfl), (Nat.le_of_ble_eq_true rfl)⟩ ⟨rfl, rfl⟩ ⟨(Nat.zero_le _), (Nat.zero_le _)⟩ (Nat.le_of_ble_eq_true rfl) ?_
    refine g_aload_n X 0 dX9_back_21 rfl rfl ?_
    refine g_getr X (x := ad 5) 0 8 1 dX9_back_22 (sgN (by decide)) rfl (by decide) rfl iw_X9 (by decide) rfl q_fl_X9_19 rfl ?_
    refine g_aload_n X 0 dX9_back_25 rfl rfl ?_
    refine g_getr X (x := ad 16) 0 8 3 dX9_back_26 (sgN (by decide)) rfl (by decide) rfl iw_X9 (by decide) rfl q_fl_X9_26 rfl ?_
    obtain ⟨m29, h29, hf⟩ := bv_i hf
    refine g_eVV X 5 0 [.ref (ad 16)] kV_X9_166 (c_X0_become (by unfold isF; decide) (by unfold isF; decide) h29) dX9_back_29 rfl rfl (sgN (by decide)) rfl (by decide) rfl rfl ⟨(Nat.le_of_ble_eq_true rfl), (Nat.le_of_ble_eq_true rfl)⟩ ⟨rfl, rfl⟩ ⟨(Nat.zero_le _), (Nat.zero_le _)⟩ (Nat.le_of_ble_eq_true rfl) ?_
    refine g_aload_n X 0 dX9_back_32 rfl rfl ?_
    refine g_getr X (x := ad 5) 0 8 1 dX9_back_33 (sgN (by decide)) rfl (by decide) rfl iw_X9 (by decide) rfl q_fl_X9_19 rfl ?_
    refine g_getI X 5 0 0 dX9_back_36 (sgN (by decide)) rfl (by decide) rfl iw_X0 (by decide) rfl q_fl_X9_165 ?_
    obtain ⟨rfl, rfl⟩ := lf2 hf
    exact hret 39 _ dX9_back_39 rfl
  · have hf := it c4 hf
    refine g_bipush X (v := -3) dX9_back_7 (by decide) ?_
    obtain ⟨rfl, rfl⟩ := lf2 hf
    exact hret 9 _ dX9_back_9 rfl

theorem kV_X9_243 : wcV RX9 243 RX4 yX4_size cX4_size 4 (some .int) 0 := ⟨q_ml_X9_243, q_im_yX4_size, q_se_yX4_size, q_in_X4, q_co_yX4_size, by decide +kernel⟩

def X9_count (p0 : Int32) (m0 : Mem) : Option (Int32 × Mem) :=
  if p0 = (0 : Int32) then
    some (m0.1 5 0, m0)
  else
    if p0 = (1 : Int32) then
      bi (X4_size m0) fun r52 m52 =>
      some (r52, m52)
    else
      if p0 = (2 : Int32) then
        bi (X0_minutesOfAll 5 m0) fun r60 m60 =>
        some (r60, m60)
      else
        if p0 = (3 : Int32) then
          some (m0.1 33 2, m0)
        else
          if p0 = (4 : Int32) then
            some (m0.1 30 1, m0)
          else
            if p0 = (5 : Int32) then
              some (m0.1 5 2, m0)
            else
              some ((-2 : Int32), m0)
abbrev rmX9_count : Room := { frames := 1, cells := 0, slots := 0, locals := 23 }

set_option maxRecDepth 100000 in
set_option maxHeartbeats 4000000 in
theorem c_X9_count {l : Launch} {G : GG} {b : Nat} {ad : Nat → Nat} {nt : Nat} {z : Nat → Nat} {p0 : Int32} {m0 : Mem} {r9 : Int32} {m9 : Mem} (hf : X9_count p0 m0 = some (r9, m9)) : MtI l yX9_count cX9_count 2 (some .int) rmX9_count G b (sg ad nt z) m0 [.ref (ad 0), .int p0] (pEI r9 (sg ad nt z) m9) := by
  refine mtI_of (by decide) (Nat.le_of_ble_eq_true rfl) .int rfl (fun Γ hG X hnm hr => ?_)
  have hret : ∀ (pc : Nat) (lv : List (Nat × Value)), decode cX9_count pc = .ok (.ireturn, 1) → narrow .int (.int r9) = .int r9 → Go Γ b (sg ad nt z) 0 0 pc lv [.int r9] m9 := fun pc lv d hn => hr pc lv _ _ _ d ⟨rfl, rfl, rfl⟩ hn
  show Go Γ b (sg ad nt z) 0 0 0 [(0, .ref (ad 0)), (1, .int p0)] [] m0
  refine g_iload_n X 1 dX9_count_0 rfl rfl ?_
  by_cases c1_0 : p0 = (0 : Int32)
  · have hf := it c1_0 hf
    refine g_tblIn X (tgt := 40) dX9_count_1 (by rw [c1_0]; decide) (by rw [c1_0]; decide) (off := 39) (by rw [c1_0]; rfl) (by decide) ?_
    refine g_aload_n X 0 dX9_count_40 rfl rfl ?_
    refine g_getr X (x := ad 5) 0 8 1 dX9_count_41 (sgN (by decide)) rfl (by decide) rfl iw_X9 (by decide) rfl q_fl_X9_19 rfl ?_
    refine g_getI X 5 0 0 dX9_count_44 (sgN (by decide)) rfl (by decide) rfl iw_X0 (by decide) rfl q_fl_X9_165 ?_
    obtain ⟨rfl, rfl⟩ := lf2 hf
    exact hret 47 _ dX9_count_47 rfl
  · have hf := ie c1_0 hf
    by_cases c1_1 : p0 = (1 : Int32)
    · have hf := it c1_1 hf
      refine g_tblIn X (tgt := 48) dX9_count_1 (by rw [c1_1]; decide) (by rw [c1_1]; decide) (off := 47) (by rw [c1_1]; rfl) (by decide) ?_
      refine g_aload_n X 0 dX9_count_48 rfl rfl ?_
      refine g_getr X (x := ad 1) 0 8 0 dX9_count_49 (sgN (by decide)) rfl (by decide) rfl iw_X9 (by decide) rfl q_fl_X9_10 rfl ?_
      obtain ⟨r52, m52, h52, hf⟩ := bi_i hf
      refine g_eVI X 1 3 [] kV_X9_243 (c_X4_size h52) dX9_count_52 rfl rfl (sgN (by decide)) rfl (by decide) rfl rfl ⟨(Nat.le_of_ble_eq_true rfl), (Nat.le_of_ble_eq_true rfl)⟩ ⟨rfl, rfl⟩ ⟨(Nat.zero_le _), (Nat.zero_le _)⟩ (Nat.le_of_ble_eq_true rfl) ?_
      obtain ⟨rfl, rfl⟩ := lf2 hf
      exact hret 55 _ dX9_count_55 rfl
    · have hf := ie c1_1 hf
      by_cases c1_2 : p0 = (2 : Int32)
      · have hf := it c1_2 hf
        refine g_tblIn X (tgt := 56) dX9_count_1 (by rw [c1_2]; decide) (by rw [c1_2]; decide) (off := 55) (by rw [c1_2]; rfl) (by decide) ?_
        refine g_aload_n X 0 dX9_count_56 rfl rfl ?_
        refine g_getr X (x := ad 5) 0 8 1 dX9_count_57 (sgN (by decide)) rfl (by decide) rfl iw_X9 (by decide) rfl q_fl_X9_19 rfl ?_
        obtain ⟨r60, m60, h60, hf⟩ := bi_i hf
        refine g_eVI X 5 0 [] kV_X9_173 (c_X0_minutesOfAll (by unfold isF; decide) h60) dX9_count_60 rfl rfl (sgN (by decide)) rfl (by decide) rfl rfl ⟨(Nat.le_of_ble_eq_true rfl), (Nat.le_of_ble_eq_true rfl)⟩ ⟨rfl, rfl⟩ ⟨(Nat.zero_le _), (Nat.zero_le _)⟩ (Nat.le_of_ble_eq_true rfl) ?_
        obtain ⟨rfl, rfl⟩ := lf2 hf
        exact hret 63 _ dX9_count_63 rfl
      · have hf := ie c1_2 hf
        by_cases c1_3 : p0 = (3 : Int32)
        · have hf := it c1_3 hf
          refine g_tblIn X (tgt := 64) dX9_count_1 (by rw [c1_3]; decide) (by rw [c1_3]; decide) (off := 63) (by rw [c1_3]; rfl) (by decide) ?_
          refine g_aload_n X 0 dX9_count_64 rfl rfl ?_
          refine g_getr X (x := ad 33) 0 8 7 dX9_count_65 (sgN (by decide)) rfl (by decide) rfl iw_X9 (by decide) rfl q_fl_X9_48 rfl ?_
          refine g_getI X 33 4 2 dX9_count_68 (sgN (by decide)) rfl (by decide) rfl iw_X5 (by decide) rfl q_fl_X9_142 ?_
          obtain ⟨rfl, rfl⟩ := lf2 hf
          exact hret 71 _ dX9_count_71 rfl
        · have hf := ie c1_3 hf
          by_cases c1_4 : p0 = (4 : Int32)
          · have hf := it c1_4 hf
            refine g_tblIn X (tgt := 72) dX9_count_1 (by rw [c1_4]; decide) (by rw [c1_4]; decide) (off := 71) (by rw [c1_4]; rfl) (by decide) ?_
            refine g_aload_n X 0 dX9_count_72 rfl rfl ?_
            refine g_getr X (x := ad 30) 0 8 6 dX9_count_73 (sgN (by decide)) rfl (by decide) rfl iw_X9 (by decide) rfl q_fl_X9_39 rfl ?_
            refine g_getI X 30 2 1 dX9_count_76 (sgN (by decide)) rfl (by decide) rfl iw_X3 (by decide) rfl q_fl_X9_245 ?_
            obtain ⟨rfl, rfl⟩ := lf2 hf
            exact hret 79 _ dX9_count_79 rfl
          · have hf := ie c1_4 hf
            by_cases c1_5 : p0 = (5 : Int32)
            · have hf := it c1_5 hf
              refine g_tblIn X (tgt := 80) dX9_count_1 (by rw [c1_5]; decide) (by rw [c1_5]; decide) (off := 79) (by rw [c1_5]; rfl) (by decide) ?_
              refine g_aload_n X 0 dX9_count_80 rfl rfl ?_
              refine g_getr X (x := ad 5) 0 8 1 dX9_count_81 (sgN (by decide)) rfl (by decide) rfl iw_X9 (by decide) rfl q_fl_X9_19 rfl ?_
              refine g_getI X 5 0 2 dX9_count_84 (sgN (by decide)) rfl (by decide) rfl iw_X0 (by decide) rfl q_fl_X9_148 ?_
              obtain ⟨rfl, rfl⟩ := lf2 hf
              exact hret 87 _ dX9_count_87 rfl
            · have hf := ie c1_5 hf
              refine g_tblOut X (tgt := 88) dX9_count_1 (by have g0 := lv_neT (a := 0) c1_0 rfl; have g1 := lv_neT (a := 1) c1_1 rfl; have g2 := lv_neT (a := 2) c1_2 rfl; have g3 := lv_neT (a := 3) c1_3 rfl; have g4 := lv_neT (a := 4) c1_4 rfl; have g5 := lv_neT (a := 5) c1_5 rfl; omega) (by decide) ?_
              refine g_bipush X (v := -2) dX9_count_88 (by decide) ?_
              obtain ⟨rfl, rfl⟩ := lf2 hf
              exact hret 90 _ dX9_count_90 rfl

def X9_sheet (p0 : Int32) (p1 : Int32) (p2 : Int32) (m0 : Mem) : Option (Int32 × Mem) :=
  bq (X9_sheetOf p0 m0) fun r2 m2 =>
  oq r2
    (some ((-2 : Int32), m2))
    (fun w2 =>
    if p1 < (-1 : Int32) then
      some ((-2 : Int32), m2)
    else
      if p1 ≤ (2 : Int32) then
        if p1 = (-1 : Int32) then
          bv (X6_become w2 (-1 : Int32) (0 : Int32) m2) fun m34 =>
          some ((1 : Int32), m34)
        else
          if p2 ≤ (40 : Int32) then
            if 0 ≤ p2 then
              bv (X6_become w2 p1 p2 m2) fun m59 =>
              some ((1 : Int32), m59)
            else
              some ((-14 : Int32), m2)
          else
            some ((-2 : Int32), m2)
      else
        some ((-2 : Int32), m2))
abbrev rmX9_sheet : Room := { frames := 2, cells := 0, slots := 0, locals := 45 }

set_option maxRecDepth 100000 in
set_option maxHeartbeats 4000000 in
theorem c_X9_sheet {l : Launch} {G : GG} {b : Nat} {ad : Nat → Nat} {nt : Nat} {z : Nat → Nat} {p0 : Int32} {p1 : Int32} {p2 : Int32} {m0 : Mem} {r9 : Int32} {m9 : Mem} (hf : X9_sheet p0 p1 p2 m0 = some (r9, m9)) : MtI l yX9_sheet cX9_sheet 5 (some .int) rmX9_sheet G b (sg ad nt z) m0 [.ref (ad 0), .int p0, .int p1, .int p2] (pEI r9 (sg ad nt z) m9) := by
  refine mtI_of (by decide) (Nat.le_of_ble_eq_true rfl) .int rfl (fun Γ hG X hnm hr => ?_)
  have hret : ∀ (pc : Nat) (lv : List (Nat × Value)), decode cX9_sheet pc = .ok (.ireturn, 1) → narrow .int (.int r9) = .int r9 → Go Γ b (sg ad nt z) 0 0 pc lv [.int r9] m9 := fun pc lv d hn => hr pc lv _ _ _ d ⟨rfl, rfl, rfl⟩ hn
  show Go Γ b (sg ad nt z) 0 0 0 [(0, .ref (ad 0)), (1, .int p0), (2, .int p1), (3, .int p2)] [] m0
  refine g_aload_n X 0 dX9_sheet_0 rfl rfl ?_
  refine g_iload_n X 1 dX9_sheet_1 rfl rfl ?_
  obtain ⟨r2, m2, h2, hf⟩ := bq_i hf
  have ok2 := shOk h2
  cases r2 with
  | none =>
    refine g_eVQ X 0 8 [.int p0] kV_X9_197 (c_X9_sheetOf h2) dX9_sheet_2 rfl rfl (sgN (by decide)) rfl (by decide) rfl rfl ⟨(Nat.le_of_ble_eq_true rfl), (Nat.le_of_ble_eq_true rfl)⟩ ⟨rfl, rfl⟩ ⟨(Nat.zero_le _), (Nat.zero_le _)⟩ (Nat.le_of_ble_eq_true rfl) ?_
    refine g_astoreN X (lv' := [(4, .null), (0, .ref (ad 0)), (1, .int p0), (2, .int p1), (3, .int p2)]) dX9_sheet_5 (by decide) rfl ?_
    refine g_aloadN X 0 dX9_sheet_7 rfl ?_
    refine g_ifnullN X (tgt := 22) dX9_sheet_9 (by decide) ?_
    refine g_bipush X (v := -2) dX9_sheet_22 (by decide) ?_
    obtain ⟨rfl, rfl⟩ := lf2 hf
    exact hret 24 _ dX9_sheet_24 rfl
  | some w2 =>
    have fw2 : isS w2 := ok2 _ rfl
    refine g_eVQ X 0 8 [.int p0] kV_X9_197 (c_X9_sheetOf h2) dX9_sheet_2 rfl rfl (sgN (by decide)) rfl (by decide) rfl rfl ⟨(Nat.le_of_ble_eq_true rfl), (Nat.le_of_ble_eq_true rfl)⟩ ⟨rfl, rfl⟩ ⟨(Nat.zero_le _), (Nat.zero_le _)⟩ (Nat.le_of_ble_eq_true rfl) ?_
    refine g_astore X (lv' := [(4, .ref (ad w2)), (0, .ref (ad 0)), (1, .int p0), (2, .int p1), (3, .int p2)]) dX9_sheet_5 (by decide) rfl ?_
    refine g_aload X 0 dX9_sheet_7 rfl ?_
    refine g_ifnull X dX9_sheet_9 ?_
    refine g_iload_n X 3 dX9_sheet_12 rfl rfl ?_
    refine g_iconst X (v := -1) dX9_sheet_13 (by decide) ?_
    refine g_icmp_lt X (tgt := 22) dX9_sheet_14 (by decide) (fun c14 => ?_) (fun c14 => ?_)
    · have hf := it c14 hf
      refine g_bipush X (v := -2) dX9_sheet_22 (by decide) ?_
      obtain ⟨rfl, rfl⟩ := lf2 hf
      exact hret 24 _ dX9_sheet_24 rfl
    · have hf := ie c14 hf
      refine g_iload_n X 3 dX9_sheet_17 rfl rfl ?_
      refine g_iconst X (v := 2) dX9_sheet_18 (by decide) ?_
      refine g_icmp_le X (tgt := 25) dX9_sheet_19 (by decide) (fun c19 => ?_) (fun c19 => ?_)
      · have hf := it c19 hf
        refine g_iload_n X 3 dX9_sheet_25 rfl rfl ?_
        refine g_iconst X (v := -1) dX9_sheet_26 (by decide) ?_
        refine g_icmp_ne X (tgt := 39) dX9_sheet_27 (by decide) (fun c27 => ?_) (fun c27 => ?_)
        · have hf := ie c27 hf
          refine g_iload_n X 4 dX9_sheet_39 rfl rfl ?_
          refine g_bipush X (v := 40) dX9_sheet_40 (by decide) ?_
          refine g_icmp_le X (tgt := 48) dX9_sheet_42 (by decide) (fun c42 => ?_) (fun c42 => ?_)
          · have hf := it c42 hf
            refine g_iload_n X 4 dX9_sheet_48 rfl rfl ?_
            refine g_if_ge X (tgt := 55) dX9_sheet_49 (by decide) (fun c49 => ?_) (fun c49 => ?_)
            · have hf := it c49 hf
              refine g_aload X 0 dX9_sheet_55 rfl ?_
              refine g_iload_n X 3 dX9_sheet_57 rfl rfl ?_
              refine g_iload_n X 4 dX9_sheet_58 rfl rfl ?_
              obtain ⟨m59, h59, hf⟩ := bv_i hf
              refine g_eVV X w2 5 [.int p1, .int p2] kV_X9_226 (c_X6_become fw2 h59) dX9_sheet_59 rfl rfl (S_lt0 fw2) (S_kd0 fw2) (by decide) rfl rfl ⟨(Nat.le_of_ble_eq_true rfl), (Nat.le_of_ble_eq_true rfl)⟩ ⟨rfl, rfl⟩ ⟨(Nat.zero_le _), (Nat.zero_le _)⟩ (Nat.le_of_ble_eq_true rfl) ?_
              refine g_iconst X (v := 1) dX9_sheet_62 (by decide) ?_
              obtain ⟨rfl, rfl⟩ := lf2 hf
              exact hret 63 _ dX9_sheet_63 rfl
            · have hf := ie c49 hf
              refine g_bipush X (v := -14) dX9_sheet_52 (by decide) ?_
              obtain ⟨rfl, rfl⟩ := lf2 hf
              exact hret 54 _ dX9_sheet_54 rfl
          · have hf := ie c42 hf
            refine g_bipush X (v := -2) dX9_sheet_45 (by decide) ?_
            obtain ⟨rfl, rfl⟩ := lf2 hf
            exact hret 47 _ dX9_sheet_47 rfl
        · have hf := it c27 hf
          refine g_aload X 0 dX9_sheet_30 rfl ?_
          refine g_iconst X (v := -1) dX9_sheet_32 (by decide) ?_
          refine g_iconst X (v := 0) dX9_sheet_33 (by decide) ?_
          obtain ⟨m34, h34, hf⟩ := bv_i hf
          refine g_eVV X w2 5 [.int (-1 : Int32), .int (0 : Int32)] kV_X9_226 (c_X6_become fw2 h34) dX9_sheet_34 rfl rfl (S_lt0 fw2) (S_kd0 fw2) (by decide) rfl rfl ⟨(Nat.le_of_ble_eq_true rfl), (Nat.le_of_ble_eq_true rfl)⟩ ⟨rfl, rfl⟩ ⟨(Nat.zero_le _), (Nat.zero_le _)⟩ (Nat.le_of_ble_eq_true rfl) ?_
          refine g_iconst X (v := 1) dX9_sheet_37 (by decide) ?_
          obtain ⟨rfl, rfl⟩ := lf2 hf
          exact hret 38 _ dX9_sheet_38 rfl
      · have hf := ie c19 hf
        refine g_bipush X (v := -2) dX9_sheet_22 (by decide) ?_
        obtain ⟨rfl, rfl⟩ := lf2 hf
        exact hret 24 _ dX9_sheet_24 rfl

theorem kV_X9_246 : wcV RX9 246 RX6 yX6_has cX6_has 3 (some .boolean) 2 := ⟨q_ml_X9_246, q_im_yX6_has, q_se_yX6_has, q_in_X6, q_co_yX6_has, by decide +kernel⟩

def X9_cell (p0 : Int32) (p1 : Int32) (p2 : Int32) (m0 : Mem) : Option (Int32 × Mem) :=
  bq (X9_sheetOf p0 m0) fun r2 m2 =>
  oq r2
    (some ((-2 : Int32), m2))
    (fun w2 =>
    bi (X6_isMissing w2 m2) fun r17 m17 =>
    if r17 = 0 then
      bi (X6_has w2 p1 (1 : Int32) m17) fun r30 m30 =>
      if r30 = 0 then
        some ((-12 : Int32), m30)
      else
        bv (X6_put w2 p1 p2 m30) fun m43 =>
        some ((1 : Int32), m43)
    else
      some ((-11 : Int32), m17))
abbrev rmX9_cell : Room := { frames := 1, cells := 0, slots := 0, locals := 22 }

set_option maxRecDepth 100000 in
set_option maxHeartbeats 4000000 in
theorem c_X9_cell {l : Launch} {G : GG} {b : Nat} {ad : Nat → Nat} {nt : Nat} {z : Nat → Nat} {p0 : Int32} {p1 : Int32} {p2 : Int32} {m0 : Mem} {r9 : Int32} {m9 : Mem} (hf : X9_cell p0 p1 p2 m0 = some (r9, m9)) : MtI l yX9_cell cX9_cell 5 (some .int) rmX9_cell G b (sg ad nt z) m0 [.ref (ad 0), .int p0, .int p1, .int p2] (pEI r9 (sg ad nt z) m9) := by
  refine mtI_of (by decide) (Nat.le_of_ble_eq_true rfl) .int rfl (fun Γ hG X hnm hr => ?_)
  have hret : ∀ (pc : Nat) (lv : List (Nat × Value)), decode cX9_cell pc = .ok (.ireturn, 1) → narrow .int (.int r9) = .int r9 → Go Γ b (sg ad nt z) 0 0 pc lv [.int r9] m9 := fun pc lv d hn => hr pc lv _ _ _ d ⟨rfl, rfl, rfl⟩ hn
  show Go Γ b (sg ad nt z) 0 0 0 [(0, .ref (ad 0)), (1, .int p0), (2, .int p1), (3, .int p2)] [] m0
  refine g_aload_n X 0 dX9_cell_0 rfl rfl ?_
  refine g_iload_n X 1 dX9_cell_1 rfl rfl ?_
  obtain ⟨r2, m2, h2, hf⟩ := bq_i hf
  have ok2 := shOk h2
  cases r2 with
  | none =>
    refine g_eVQ X 0 8 [.int p0] kV_X9_197 (c_X9_sheetOf h2) dX9_cell_2 rfl rfl (sgN (by decide)) rfl (by decide) rfl rfl ⟨(Nat.le_of_ble_eq_true rfl), (Nat.le_of_ble_eq_true rfl)⟩ ⟨rfl, rfl⟩ ⟨(Nat.zero_le _), (Nat.zero_le _)⟩ (Nat.le_of_ble_eq_true rfl) ?_
    refine g_astoreN X (lv' := [(4, .null), (0, .ref (ad 0)), (1, .int p0), (2, .int p1), (3, .int p2)]) dX9_cell_5 (by decide) rfl ?_
    refine g_aloadN X 0 dX9_cell_7 rfl ?_
    refine g_ifnonnullN X dX9_cell_9 ?_
    refine g_bipush X (v := -2) dX9_cell_12 (by decide) ?_
    obtain ⟨rfl, rfl⟩ := lf2 hf
    exact hret 14 _ dX9_cell_14 rfl
  | some w2 =>
    have fw2 : isS w2 := ok2 _ rfl
    refine g_eVQ X 0 8 [.int p0] kV_X9_197 (c_X9_sheetOf h2) dX9_cell_2 rfl rfl (sgN (by decide)) rfl (by decide) rfl rfl ⟨(Nat.le_of_ble_eq_true rfl), (Nat.le_of_ble_eq_true rfl)⟩ ⟨rfl, rfl⟩ ⟨(Nat.zero_le _), (Nat.zero_le _)⟩ (Nat.le_of_ble_eq_true rfl) ?_
    refine g_astore X (lv' := [(4, .ref (ad w2)), (0, .ref (ad 0)), (1, .int p0), (2, .int p1), (3, .int p2)]) dX9_cell_5 (by decide) rfl ?_
    refine g_aload X 0 dX9_cell_7 rfl ?_
    refine g_ifnonnull X (tgt := 15) dX9_cell_9 (by decide) ?_
    refine g_aload X 0 dX9_cell_15 rfl ?_
    obtain ⟨r17, m17, h17, hf⟩ := bi_i hf
    refine g_eVI X w2 5 [] kV_X9_201 (c_X6_isMissing fw2 h17) dX9_cell_17 rfl rfl (S_lt0 fw2) (S_kd0 fw2) (by decide) rfl rfl ⟨(Nat.le_of_ble_eq_true rfl), (Nat.le_of_ble_eq_true rfl)⟩ ⟨rfl, rfl⟩ ⟨(Nat.zero_le _), (Nat.zero_le _)⟩ (Nat.le_of_ble_eq_true rfl) ?_
    refine g_if_eq X (tgt := 26) dX9_cell_20 (by decide) (fun c20 => ?_) (fun c20 => ?_)
    · have hf := it c20 hf
      refine g_aload X 0 dX9_cell_26 rfl ?_
      refine g_iload_n X 3 dX9_cell_28 rfl rfl ?_
      refine g_iconst X (v := 1) dX9_cell_29 (by decide) ?_
      obtain ⟨r30, m30, h30, hf⟩ := bi_i hf
      refine g_eVI X w2 5 [.int p1, .int (1 : Int32)] kV_X9_246 (c_X6_has fw2 h30) dX9_cell_30 rfl rfl (S_lt0 fw2) (S_kd0 fw2) (by decide) rfl rfl ⟨(Nat.le_of_ble_eq_true rfl), (Nat.le_of_ble_eq_true rfl)⟩ ⟨rfl, rfl⟩ ⟨(Nat.zero_le _), (Nat.zero_le _)⟩ (Nat.le_of_ble_eq_true rfl) ?_
      refine g_if_ne X (tgt := 39) dX9_cell_33 (by decide) (fun c33 => ?_) (fun c33 => ?_)
      · have hf := ie c33 hf
        refine g_aload X 0 dX9_cell_39 rfl ?_
        refine g_iload_n X 3 dX9_cell_41 rfl rfl ?_
        refine g_iload_n X 4 dX9_cell_42 rfl rfl ?_
        obtain ⟨m43, h43, hf⟩ := bv_i hf
        refine g_eVV X w2 5 [.int p1, .int p2] kV_X9_229 (c_X6_put fw2 h43) dX9_cell_43 rfl rfl (S_lt0 fw2) (S_kd0 fw2) (by decide) rfl rfl ⟨(Nat.le_of_ble_eq_true rfl), (Nat.le_of_ble_eq_true rfl)⟩ ⟨rfl, rfl⟩ ⟨(Nat.zero_le _), (Nat.zero_le _)⟩ (Nat.le_of_ble_eq_true rfl) ?_
        refine g_iconst X (v := 1) dX9_cell_46 (by decide) ?_
        obtain ⟨rfl, rfl⟩ := lf2 hf
        exact hret 47 _ dX9_cell_47 rfl
      · have hf := it c33 hf
        refine g_bipush X (v := -12) dX9_cell_36 (by decide) ?_
        obtain ⟨rfl, rfl⟩ := lf2 hf
        exact hret 38 _ dX9_cell_38 rfl
    · have hf := ie c20 hf
      refine g_bipush X (v := -11) dX9_cell_23 (by decide) ?_
      obtain ⟨rfl, rfl⟩ := lf2 hf
      exact hret 25 _ dX9_cell_25 rfl

def X9_copy (p0 : Int32) (p1 : Int32) (p2 : Int32) (p3 : Int32) (p4 : Int32) (m0 : Mem) : Option (Int32 × Mem) :=
  bq (X9_sheetOf p0 m0) fun r2 m2 =>
  oq r2
    (bq (X9_sheetOf p2 m2) fun r9 m9 =>
    oq r9
      (some ((-2 : Int32), m9))
      (fun w9 =>
      some ((-2 : Int32), m9)))
    (fun w2 =>
    bq (X9_sheetOf p2 m2) fun r9 m9 =>
    oq r9
      (some ((-2 : Int32), m9))
      (fun w9 =>
      bi (X6_isMissing w2 m9) fun r29 m29 =>
      if r29 = 0 then
        bi (X6_isMissing w9 m29) fun r37 m37 =>
        if r37 = 0 then
          if (m37.1 w2 0) = (m37.1 w9 0) then
            bi (X6_has w2 p1 p4 m37) fun r67 m67 =>
            if r67 = 0 then
              some ((-12 : Int32), m67)
            else
              bi (X6_has w9 p3 p4 m67) fun r79 m79 =>
              if r79 = 0 then
                some ((-12 : Int32), m79)
              else
                if (¬ p1 < 0 ∧ ¬ p3 < 0 ∧ ¬ p4 < 0 ∧ p1.toNatClampNeg + p4.toNatClampNeg ≤ 40 ∧ p3.toNatClampNeg + p4.toNatClampNeg ≤ 40) then
                some (p4, pC m79 (w2 + 1) (w9 + 1) p1.toNatClampNeg p3.toNatClampNeg p4.toNatClampNeg)
                else none
          else
            some ((-13 : Int32), m37)
        else
          some ((-11 : Int32), m37)
      else
        some ((-11 : Int32), m29)))
abbrev rmX9_copy : Room := { frames := 1, cells := 0, slots := 0, locals := 60 }

set_option maxRecDepth 100000 in
set_option maxHeartbeats 4000000 in
theorem c_X9_copy {l : Launch} {G : GG} {b : Nat} {ad : Nat → Nat} {nt : Nat} {z : Nat → Nat} {p0 : Int32} {p1 : Int32} {p2 : Int32} {p3 : Int32} {p4 : Int32} {m0 : Mem} {r9 : Int32} {m9 : Mem} (hf : X9_copy p0 p1 p2 p3 p4 m0 = some (r9, m9)) : MtI l yX9_copy cX9_copy 8 (some .int) rmX9_copy G b (sg ad nt z) m0 [.ref (ad 0), .int p0, .int p1, .int p2, .int p3, .int p4] (pEI r9 (sg ad nt z) m9) := by
  refine mtI_of (by decide) (Nat.le_of_ble_eq_true rfl) .int rfl (fun Γ hG X hnm hr => ?_)
  have hret : ∀ (pc : Nat) (lv : List (Nat × Value)), decode cX9_copy pc = .ok (.ireturn, 1) → narrow .int (.int r9) = .int r9 → Go Γ b (sg ad nt z) 0 0 pc lv [.int r9] m9 := fun pc lv d hn => hr pc lv _ _ _ d ⟨rfl, rfl, rfl⟩ hn
  show Go Γ b (sg ad nt z) 0 0 0 [(0, .ref (ad 0)), (1, .int p0), (2, .int p1), (3, .int p2), (4, .int p3), (5, .int p4)] [] m0
  refine g_aload_n X 0 dX9_copy_0 rfl rfl ?_
  refine g_iload_n X 1 dX9_copy_1 rfl rfl ?_
  obtain ⟨r2, m2, h2, hf⟩ := bq_i hf
  have ok2 := shOk h2
  cases r2 with
  | none =>
    refine g_eVQ X 0 8 [.int p0] kV_X9_197 (c_X9_sheetOf h2) dX9_copy_2 rfl rfl (sgN (by decide)) rfl (by decide) rfl rfl ⟨(Nat.le_of_ble_eq_true rfl), (Nat.le_of_ble_eq_true rfl)⟩ ⟨rfl, rfl⟩ ⟨(Nat.zero_le _), (Nat.zero_le _)⟩ (Nat.le_of_ble_eq_true rfl) ?_
    refine g_astoreN X (lv' := [(6, .null), (0, .ref (ad 0)), (1, .int p0), (2, .int p1), (3, .int p2), (4, .int p3), (5, .int p4)]) dX9_copy_5 (by decide) rfl ?_
    refine g_aload_n X 1 dX9_copy_7 rfl rfl ?_
    refine g_iload_n X 4 dX9_copy_8 rfl rfl ?_
    obtain ⟨r9, m9, h9, hf⟩ := bq_i hf
    have ok9 := shOk h9
    cases r9 with
    | none =>
      refine g_eVQ X 0 8 [.int p2] kV_X9_197 (c_X9_sheetOf h9) dX9_copy_9 rfl rfl (sgN (by decide)) rfl (by decide) rfl rfl ⟨(Nat.le_of_ble_eq_true rfl), (Nat.le_of_ble_eq_true rfl)⟩ ⟨rfl, rfl⟩ ⟨(Nat.zero_le _), (Nat.zero_le _)⟩ (Nat.le_of_ble_eq_true rfl) ?_
      refine g_astoreN X (lv' := [(7, .null), (6, .null), (0, .ref (ad 0)), (1, .int p0), (2, .int p1), (3, .int p2), (4, .int p3), (5, .int p4)]) dX9_copy_12 (by decide) rfl ?_
      refine g_aloadN X 1 dX9_copy_14 rfl ?_
      refine g_ifnullN X (tgt := 24) dX9_copy_16 (by decide) ?_
      refine g_bipush X (v := -2) dX9_copy_24 (by decide) ?_
      obtain ⟨rfl, rfl⟩ := lf2 hf
      exact hret 26 _ dX9_copy_26 rfl
    | some w9 =>
      have fw9 : isS w9 := ok9 _ rfl
      refine g_eVQ X 0 8 [.int p2] kV_X9_197 (c_X9_sheetOf h9) dX9_copy_9 rfl rfl (sgN (by decide)) rfl (by decide) rfl rfl ⟨(Nat.le_of_ble_eq_true rfl), (Nat.le_of_ble_eq_true rfl)⟩ ⟨rfl, rfl⟩ ⟨(Nat.zero_le _), (Nat.zero_le _)⟩ (Nat.le_of_ble_eq_true rfl) ?_
      refine g_astore X (lv' := [(7, .ref (ad w9)), (6, .null), (0, .ref (ad 0)), (1, .int p0), (2, .int p1), (3, .int p2), (4, .int p3), (5, .int p4)]) dX9_copy_12 (by decide) rfl ?_
      refine g_aloadN X 1 dX9_copy_14 rfl ?_
      refine g_ifnullN X (tgt := 24) dX9_copy_16 (by decide) ?_
      refine g_bipush X (v := -2) dX9_copy_24 (by decide) ?_
      obtain ⟨rfl, rfl⟩ := lf2 hf
      exact hret 26 _ dX9_copy_26 rfl
  | some w2 =>
    have fw2 : isS w2 := ok2 _ rfl
    refine g_eVQ X 0 8 [.int p0] kV_X9_197 (c_X9_sheetOf h2) dX9_copy_2 rfl rfl (sgN (by decide)) rfl (by decide) rfl rfl ⟨(Nat.le_of_ble_eq_true rfl), (Nat.le_of_ble_eq_true rfl)⟩ ⟨rfl, rfl⟩ ⟨(Nat.zero_le _), (Nat.zero_le _)⟩ (Nat.le_of_ble_eq_true rfl) ?_
    refine g_astore X (lv' := [(6, .ref (ad w2)), (0, .ref (ad 0)), (1, .int p0), (2, .int p1), (3, .int p2), (4, .int p3), (5, .int p4)]) dX9_copy_5 (by decide) rfl ?_
    refine g_aload_n X 1 dX9_copy_7 rfl rfl ?_
    refine g_iload_n X 4 dX9_copy_8 rfl rfl ?_
    obtain ⟨r9, m9, h9, hf⟩ := bq_i hf
    have ok9 := shOk h9
    cases r9 with
    | none =>
      refine g_eVQ X 0 8 [.int p2] kV_X9_197 (c_X9_sheetOf h9) dX9_copy_9 rfl rfl (sgN (by decide)) rfl (by decide) rfl rfl ⟨(Nat.le_of_ble_eq_true rfl), (Nat.le_of_ble_eq_true rfl)⟩ ⟨rfl, rfl⟩ ⟨(Nat.zero_le _), (Nat.zero_le _)⟩ (Nat.le_of_ble_eq_true rfl) ?_
      refine g_astoreN X (lv' := [(7, .null), (6, .ref (ad w2)), (0, .ref (ad 0)), (1, .int p0), (2, .int p1), (3, .int p2), (4, .int p3), (5, .int p4)]) dX9_copy_12 (by decide) rfl ?_
      refine g_aload X 1 dX9_copy_14 rfl ?_
      refine g_ifnull X dX9_copy_16 ?_
      refine g_aloadN X 0 dX9_copy_19 rfl ?_
      refine g_ifnonnullN X dX9_copy_21 ?_
      refine g_bipush X (v := -2) dX9_copy_24 (by decide) ?_
      obtain ⟨rfl, rfl⟩ := lf2 hf
      exact hret 26 _ dX9_copy_26 rfl
    | some w9 =>
      have fw9 : isS w9 := ok9 _ rfl
      refine g_eVQ X 0 8 [.int p2] kV_X9_197 (c_X9_sheetOf h9) dX9_copy_9 rfl rfl (sgN (by decide)) rfl (by decide) rfl rfl ⟨(Nat.le_of_ble_eq_true rfl), (Nat.le_of_ble_eq_true rfl)⟩ ⟨rfl, rfl⟩ ⟨(Nat.zero_le _), (Nat.zero_le _)⟩ (Nat.le_of_ble_eq_true rfl) ?_
      refine g_astore X (lv' := [(7, .ref (ad w9)), (6, .ref (ad w2)), (0, .ref (ad 0)), (1, .int p0), (2, .int p1), (3, .int p2), (4, .int p3), (5, .int p4)]) dX9_copy_12 (by decide) rfl ?_
      refine g_aload X 1 dX9_copy_14 rfl ?_
      refine g_ifnull X dX9_copy_16 ?_
      refine g_aload X 0 dX9_copy_19 rfl ?_
      refine g_ifnonnull X (tgt := 27) dX9_copy_21 (by decide) ?_
      refine g_aload X 1 dX9_copy_27 rfl ?_
      obtain ⟨r29, m29, h29, hf⟩ := bi_i hf
      refine g_eVI X w2 5 [] kV_X9_201 (c_X6_isMissing fw2 h29) dX9_copy_29 rfl rfl (S_lt0 fw2) (S_kd0 fw2) (by decide) rfl rfl ⟨(Nat.le_of_ble_eq_true rfl), (Nat.le_of_ble_eq_true rfl)⟩ ⟨rfl, rfl⟩ ⟨(Nat.zero_le _), (Nat.zero_le _)⟩ (Nat.le_of_ble_eq_true rfl) ?_
      refine g_if_ne X (tgt := 43) dX9_copy_32 (by decide) (fun c32 => ?_) (fun c32 => ?_)
      · have hf := ie c32 hf
        refine g_bipush X (v := -11) dX9_copy_43 (by decide) ?_
        obtain ⟨rfl, rfl⟩ := lf2 hf
        exact hret 45 _ dX9_copy_45 rfl
      · have hf := it c32 hf
        refine g_aload X 0 dX9_copy_35 rfl ?_
        obtain ⟨r37, m37, h37, hf⟩ := bi_i hf
        refine g_eVI X w9 5 [] kV_X9_201 (c_X6_isMissing fw9 h37) dX9_copy_37 rfl rfl (S_lt0 fw9) (S_kd0 fw9) (by decide) rfl rfl ⟨(Nat.le_of_ble_eq_true rfl), (Nat.le_of_ble_eq_true rfl)⟩ ⟨rfl, rfl⟩ ⟨(Nat.zero_le _), (Nat.zero_le _)⟩ (Nat.le_of_ble_eq_true rfl) ?_
        refine g_if_eq X (tgt := 46) dX9_copy_40 (by decide) (fun c40 => ?_) (fun c40 => ?_)
        · have hf := it c40 hf
          refine g_aload X 1 dX9_copy_46 rfl ?_
          refine g_getI X w2 5 0 dX9_copy_48 (S_lt0 fw2) (S_kd0 fw2) (by decide) rfl iw_X6 (by decide) rfl q_fl_X9_249 ?_
          refine g_aload X 0 dX9_copy_51 rfl ?_
          refine g_getI X w9 5 0 dX9_copy_53 (S_lt0 fw9) (S_kd0 fw9) (by decide) rfl iw_X6 (by decide) rfl q_fl_X9_249 ?_
          refine g_icmp_eq X (tgt := 62) dX9_copy_56 (by decide) (fun c56 => ?_) (fun c56 => ?_)
          · have hf := it c56 hf
            refine g_aload X 1 dX9_copy_62 rfl ?_
            refine g_iload_n X 4 dX9_copy_64 rfl rfl ?_
            refine g_iload X 7 dX9_copy_65 rfl ?_
            obtain ⟨r67, m67, h67, hf⟩ := bi_i hf
            refine g_eVI X w2 5 [.int p1, .int p4] kV_X9_246 (c_X6_has fw2 h67) dX9_copy_67 rfl rfl (S_lt0 fw2) (S_kd0 fw2) (by decide) rfl rfl ⟨(Nat.le_of_ble_eq_true rfl), (Nat.le_of_ble_eq_true rfl)⟩ ⟨rfl, rfl⟩ ⟨(Nat.zero_le _), (Nat.zero_le _)⟩ (Nat.le_of_ble_eq_true rfl) ?_
            refine g_if_eq X (tgt := 85) dX9_copy_70 (by decide) (fun c70 => ?_) (fun c70 => ?_)
            · have hf := it c70 hf
              refine g_bipush X (v := -12) dX9_copy_85 (by decide) ?_
              obtain ⟨rfl, rfl⟩ := lf2 hf
              exact hret 87 _ dX9_copy_87 rfl
            · have hf := ie c70 hf
              refine g_aload X 0 dX9_copy_73 rfl ?_
              refine g_iload X 6 dX9_copy_75 rfl ?_
              refine g_iload X 7 dX9_copy_77 rfl ?_
              obtain ⟨r79, m79, h79, hf⟩ := bi_i hf
              refine g_eVI X w9 5 [.int p3, .int p4] kV_X9_246 (c_X6_has fw9 h79) dX9_copy_79 rfl rfl (S_lt0 fw9) (S_kd0 fw9) (by decide) rfl rfl ⟨(Nat.le_of_ble_eq_true rfl), (Nat.le_of_ble_eq_true rfl)⟩ ⟨rfl, rfl⟩ ⟨(Nat.zero_le _), (Nat.zero_le _)⟩ (Nat.le_of_ble_eq_true rfl) ?_
              refine g_if_ne X (tgt := 88) dX9_copy_82 (by decide) (fun c82 => ?_) (fun c82 => ?_)
              · have hf := ie c82 hf
                refine g_aload X 1 dX9_copy_88 rfl ?_
                refine g_getr X (x := ad (w2 + 1)) w2 5 2 dX9_copy_90 (S_lt0 fw2) (S_kd0 fw2) (by decide) rfl iw_X6 (by decide) rfl q_fl_X9_214 (S_r2 fw2) ?_
                refine g_iload_n X 4 dX9_copy_93 rfl rfl ?_
                refine g_aload X 0 dX9_copy_94 rfl ?_
                refine g_getr X (x := ad (w9 + 1)) w9 5 2 dX9_copy_96 (S_lt0 fw9) (S_kd0 fw9) (by decide) rfl iw_X6 (by decide) rfl q_fl_X9_214 (S_r2 fw9) ?_
                refine g_iload X 6 dX9_copy_99 rfl ?_
                refine g_iload X 7 dX9_copy_101 rfl ?_
                obtain ⟨⟨ga, gb, gc, gd, ge⟩, hf⟩ := grd hf
                refine g_copyi X (w2 + 1) (w9 + 1) dX9_copy_103 q_ml_X9_252 q_native_copy q_static_copy q_in_Sys (S_lt1 fw2) (S_kd1 fw2) (S_ln1 fw2) (S_lt1 fw9) (S_kd1 fw9) (S_ln1 fw9) ga gb gc gd ge (by decide) (by decide) ?_
                refine g_iload X 7 dX9_copy_106 rfl ?_
                obtain ⟨rfl, rfl⟩ := lf2 hf
                exact hret 108 _ dX9_copy_108 rfl
              · have hf := it c82 hf
                refine g_bipush X (v := -12) dX9_copy_85 (by decide) ?_
                obtain ⟨rfl, rfl⟩ := lf2 hf
                exact hret 87 _ dX9_copy_87 rfl
          · have hf := ie c56 hf
            refine g_bipush X (v := -13) dX9_copy_59 (by decide) ?_
            obtain ⟨rfl, rfl⟩ := lf2 hf
            exact hret 61 _ dX9_copy_61 rfl
        · have hf := ie c40 hf
          refine g_bipush X (v := -11) dX9_copy_43 (by decide) ?_
          obtain ⟨rfl, rfl⟩ := lf2 hf
          exact hret 45 _ dX9_copy_45 rfl

theorem kV_X9_258 : wcV RX9 258 RX9 yX9_person cX9_person 4 (some .int) 3 := ⟨q_ml_X9_258, q_im_yX9_person, q_se_yX9_person, q_in_X9, q_co_yX9_person, by decide +kernel⟩

def X9_people_140 (k73 : Int32 → Int32 → Nat → Int32 → Int32 → Mem → Option (Int32 × Mem)) (v3 : Int32) (v4 : Int32) (xv5 : Nat) (v6 : Int32) (v7 : Int32) (m0 : Mem) : Option (Int32 × Mem) :=
  k73 v3 v4 xv5 v6 (v7 + (1 : Int32)) m0
def X9_people_73 : Nat → Int32 → Int32 → Nat → Int32 → Int32 → Mem → Option (Int32 × Mem)
  | 0, _, _, _, _, _, _ => none
  | n + 1, v3, v4, xv5, v6, v7, m0 =>
    if v4 ≤ v7 then
      some (v6, m0)
    else
      bi (X6_has xv5 (v3 + ((3 : Int32) * v7)) (3 : Int32) m0) fun r93 m93 =>
      if r93 = 0 then
        some ((-12 : Int32), m93)
      else
        if inn (v3 + ((3 : Int32) * v7)) 40 then
        if inn ((v3 + ((3 : Int32) * v7)) + (1 : Int32)) 40 then
        if inn ((v3 + ((3 : Int32) * v7)) + (2 : Int32)) 40 then
        bi (X9_person (m93.1 (xv5 + 1) (v3 + ((3 : Int32) * v7)).toNatClampNeg) (m93.1 (xv5 + 1) ((v3 + ((3 : Int32) * v7)) + (1 : Int32)).toNatClampNeg) (m93.1 (xv5 + 1) ((v3 + ((3 : Int32) * v7)) + (2 : Int32)).toNatClampNeg) m93) fun r131 m131 =>
        if r131 < 0 then
          X9_people_140 (X9_people_73 n) v3 v4 xv5 v6 v7 m131
        else
          X9_people_140 (X9_people_73 n) v3 v4 xv5 (v6 + (1 : Int32)) v7 m131
        else none
        else none
        else none
def X9_people_56 (v3 : Int32) (v4 : Int32) (xv5 : Nat) (m0 : Mem) : Option (Int32 × Mem) :=
  bi (X6_isMissing xv5 m0) fun r58 m58 =>
  if r58 = 0 then
    X9_people_73 10000 v3 v4 xv5 (0 : Int32) (0 : Int32) m58
  else
    some ((-11 : Int32), m58)
def X9_people (p0 : Int32) (p1 : Int32) (p2 : Int32) (p3 : Int32) (m0 : Mem) : Option (Int32 × Mem) :=
  bq (X9_sheetOf p0 m0) fun r2 m2 =>
  oq r2
    (some ((-2 : Int32), m2))
    (fun w2 =>
    if p1 < 0 then
      some ((-2 : Int32), m2)
    else
      if (2 : Int32) < p1 then
        some ((-2 : Int32), m2)
      else
        if p3 < 0 then
          some ((-2 : Int32), m2)
        else
          if p3 ≤ (6 : Int32) then
            bi (X6_isMissing w2 m2) fun r38 m38 =>
            if r38 = 0 then
              if (m38.1 w2 0) = p1 then
                X9_people_56 p2 p3 w2 m38
              else
                some ((-13 : Int32), m38)
            else
              X9_people_56 p2 p3 w2 m38
          else
            some ((-2 : Int32), m2))
abbrev rmX9_people : Room := { frames := 2, cells := 0, slots := 0, locals := 46 }
set_option maxRecDepth 100000 in
set_option maxHeartbeats 4000000 in
theorem w_X9_people_140 {Γ : Ga} {b : Nat} {ad : Nat → Nat} {nt : Nat} {z : Nat → Nat} {k73 : Int32 → Int32 → Nat → Int32 → Int32 → Mem → Option (Int32 × Mem)} {r9 : Int32} {m9 : Mem} (X : Cx Γ b cX9_people 9 RX9 (some .int) rmX9_people) (hret : ∀ (pc : Nat) (lv : List (Nat × Value)), decode cX9_people pc = .ok (.ireturn, 1) → narrow .int (.int r9) = .int r9 → Go Γ b (sg ad nt z) 0 0 pc lv [.int r9] m9) (hk73 : ∀ (v3 : Int32) (v4 : Int32) (xv5 : Nat) (v6 : Int32) (v7 : Int32) (hxv5 : isS xv5) (m0 : Mem), k73 v3 v4 xv5 v6 v7 m0 = some (r9, m9) → Go Γ b (sg ad nt z) 0 0 73 [(0, .ref (ad 0)), (3, .int v3), (4, .int v4), (5, .ref (ad xv5)), (6, .int v6), (7, .int v7)] [] m0) (v3 : Int32) (v4 : Int32) (xv5 : Nat) (v6 : Int32) (v7 : Int32) (hxv5 : isS xv5) (m0 : Mem) (hf : X9_people_140 k73 v3 v4 xv5 v6 v7 m0 = some (r9, m9)) : Go Γ b (sg ad nt z) 0 0 140 [(0, .ref (ad 0)), (3, .int v3), (4, .int v4), (5, .ref (ad xv5)), (6, .int v6), (7, .int v7)] [] m0 := by
  refine g_iinc X 5 (v := v7 + (1 : Int32)) (lv' := [(7, .int (v7 + (1 : Int32))), (0, .ref (ad 0)), (3, .int v3), (4, .int v4), (5, .ref (ad xv5)), (6, .int v6)]) dX9_people_140 rfl rfl (by decide) rfl ?_
  refine g_goto X (tgt := 73) dX9_people_143 (by decide) ?_
  refine g_pick [1, 2, 3, 4, 5, 0] (lv' := [(0, .ref (ad 0)), (3, .int v3), (4, .int v4), (5, .ref (ad xv5)), (6, .int v6), (7, .int (v7 + (1 : Int32)))]) rfl ?_
  exact hk73 v3 v4 xv5 v6 (v7 + (1 : Int32)) hxv5 m0 hf
set_option maxRecDepth 100000 in
set_option maxHeartbeats 4000000 in
theorem w_X9_people_73 {Γ : Ga} {b : Nat} {ad : Nat → Nat} {nt : Nat} {z : Nat → Nat} {r9 : Int32} {m9 : Mem} (X : Cx Γ b cX9_people 9 RX9 (some .int) rmX9_people) (hret : ∀ (pc : Nat) (lv : List (Nat × Value)), decode cX9_people pc = .ok (.ireturn, 1) → narrow .int (.int r9) = .int r9 → Go Γ b (sg ad nt z) 0 0 pc lv [.int r9] m9) : ∀ (n : Nat) (v3 : Int32) (v4 : Int32) (xv5 : Nat) (v6 : Int32) (v7 : Int32) (hxv5 : isS xv5) (m0 : Mem), X9_people_73 n v3 v4 xv5 v6 v7 m0 = some (r9, m9) → Go Γ b (sg ad nt z) 0 0 73 [(0, .ref (ad 0)), (3, .int v3), (4, .int v4), (5, .ref (ad xv5)), (6, .int v6), (7, .int v7)] [] m0 := by
  intro n
  induction n with
  | zero =>
    intro v3 v4 xv5 v6 v7 hxv5 m0 hf
    cases hf
  | succ n ih =>
    intro v3 v4 xv5 v6 v7 hxv5 m0 hf
    refine g_iload X 5 dX9_people_73 rfl ?_
    refine g_iload X 2 dX9_people_75 rfl ?_
    refine g_icmp_ge X (tgt := 146) dX9_people_77 (by decide) (fun c77 => ?_) (fun c77 => ?_)
    · have hf := it c77 hf
      refine g_iload X 4 dX9_people_146 rfl ?_
      obtain ⟨rfl, rfl⟩ := lf2 hf
      exact hret 148 _ dX9_people_148 rfl
    · have hf := ie c77 hf
      refine g_iload_n X 1 dX9_people_80 rfl rfl ?_
      refine g_iconst X (v := 3) dX9_people_81 (by decide) ?_
      refine g_iload X 5 dX9_people_82 rfl ?_
      refine g_imul X dX9_people_84 ?_
      refine g_iadd X dX9_people_85 ?_
      refine g_istore X (lv' := [(8, .int (v3 + ((3 : Int32) * v7))), (0, .ref (ad 0)), (3, .int v3), (4, .int v4), (5, .ref (ad xv5)), (6, .int v6), (7, .int v7)]) dX9_people_86 (by decide) rfl ?_
      refine g_aload X 4 dX9_people_88 rfl ?_
      refine g_iload X 0 dX9_people_90 rfl ?_
      refine g_iconst X (v := 3) dX9_people_92 (by decide) ?_
      obtain ⟨r93, m93, h93, hf⟩ := bi_i hf
      refine g_eVI X xv5 5 [.int (v3 + ((3 : Int32) * v7)), .int (3 : Int32)] kV_X9_246 (c_X6_has hxv5 h93) dX9_people_93 rfl rfl (S_lt0 hxv5) (S_kd0 hxv5) (by decide) rfl rfl ⟨(Nat.le_of_ble_eq_true rfl), (Nat.le_of_ble_eq_true rfl)⟩ ⟨rfl, rfl⟩ ⟨(Nat.zero_le _), (Nat.zero_le _)⟩ (Nat.le_of_ble_eq_true rfl) ?_
      refine g_if_ne X (tgt := 102) dX9_people_96 (by decide) (fun c96 => ?_) (fun c96 => ?_)
      · have hf := ie c96 hf
        refine g_aload_n X 1 dX9_people_102 rfl rfl ?_
        refine g_aload X 4 dX9_people_103 rfl ?_
        refine g_getr X (x := ad (xv5 + 1)) xv5 5 2 dX9_people_105 (S_lt0 hxv5) (S_kd0 hxv5) (by decide) rfl iw_X6 (by decide) rfl q_fl_X9_214 (S_r2 hxv5) ?_
        refine g_iload X 0 dX9_people_108 rfl ?_
        obtain ⟨h110, hf⟩ := grd hf
        refine g_iald X (xv5 + 1) (n := 40) dX9_people_110 (S_lt1 hxv5) (S_kd1 hxv5) (S_ln1 hxv5) h110 ?_
        refine g_aload X 4 dX9_people_111 rfl ?_
        refine g_getr X (x := ad (xv5 + 1)) xv5 5 2 dX9_people_113 (S_lt0 hxv5) (S_kd0 hxv5) (by decide) rfl iw_X6 (by decide) rfl q_fl_X9_214 (S_r2 hxv5) ?_
        refine g_iload X 0 dX9_people_116 rfl ?_
        refine g_iconst X (v := 1) dX9_people_118 (by decide) ?_
        refine g_iadd X dX9_people_119 ?_
        obtain ⟨h120, hf⟩ := grd hf
        refine g_iald X (xv5 + 1) (n := 40) dX9_people_120 (S_lt1 hxv5) (S_kd1 hxv5) (S_ln1 hxv5) h120 ?_
        refine g_aload X 4 dX9_people_121 rfl ?_
        refine g_getr X (x := ad (xv5 + 1)) xv5 5 2 dX9_people_123 (S_lt0 hxv5) (S_kd0 hxv5) (by decide) rfl iw_X6 (by decide) rfl q_fl_X9_214 (S_r2 hxv5) ?_
        refine g_iload X 0 dX9_people_126 rfl ?_
        refine g_iconst X (v := 2) dX9_people_128 (by decide) ?_
        refine g_iadd X dX9_people_129 ?_
        obtain ⟨h130, hf⟩ := grd hf
        refine g_iald X (xv5 + 1) (n := 40) dX9_people_130 (S_lt1 hxv5) (S_kd1 hxv5) (S_ln1 hxv5) h130 ?_
        obtain ⟨r131, m131, h131, hf⟩ := bi_i hf
        refine g_eVI X 0 8 [.int (m93.1 (xv5 + 1) (v3 + ((3 : Int32) * v7)).toNatClampNeg), .int (m93.1 (xv5 + 1) ((v3 + ((3 : Int32) * v7)) + (1 : Int32)).toNatClampNeg), .int (m93.1 (xv5 + 1) ((v3 + ((3 : Int32) * v7)) + (2 : Int32)).toNatClampNeg)] kV_X9_258 (c_X9_person h131) dX9_people_131 rfl rfl (sgN (by decide)) rfl (by decide) rfl rfl ⟨(Nat.le_of_ble_eq_true rfl), (Nat.le_of_ble_eq_true rfl)⟩ ⟨rfl, rfl⟩ ⟨(Nat.zero_le _), (Nat.zero_le _)⟩ (Nat.le_of_ble_eq_true rfl) ?_
        refine g_if_lt X (tgt := 140) dX9_people_134 (by decide) (fun c134 => ?_) (fun c134 => ?_)
        · have hf := it c134 hf
          refine g_pick [1, 2, 3, 4, 5, 6] (lv' := [(0, .ref (ad 0)), (3, .int v3), (4, .int v4), (5, .ref (ad xv5)), (6, .int v6), (7, .int v7)]) rfl ?_
          exact w_X9_people_140 X hret ih v3 v4 xv5 v6 v7 hxv5 m131 hf
        · have hf := ie c134 hf
          refine g_iinc X 5 (v := v6 + (1 : Int32)) (lv' := [(6, .int (v6 + (1 : Int32))), (8, .int (v3 + ((3 : Int32) * v7))), (0, .ref (ad 0)), (3, .int v3), (4, .int v4), (5, .ref (ad xv5)), (7, .int v7)]) dX9_people_137 rfl rfl (by decide) rfl ?_
          refine g_pick [2, 3, 4, 5, 0, 6] (lv' := [(0, .ref (ad 0)), (3, .int v3), (4, .int v4), (5, .ref (ad xv5)), (6, .int (v6 + (1 : Int32))), (7, .int v7)]) rfl ?_
          exact w_X9_people_140 X hret ih v3 v4 xv5 (v6 + (1 : Int32)) v7 hxv5 m131 hf
      · have hf := it c96 hf
        refine g_bipush X (v := -12) dX9_people_99 (by decide) ?_
        obtain ⟨rfl, rfl⟩ := lf2 hf
        exact hret 101 _ dX9_people_101 rfl
set_option maxRecDepth 100000 in
set_option maxHeartbeats 4000000 in
theorem w_X9_people_56 {Γ : Ga} {b : Nat} {ad : Nat → Nat} {nt : Nat} {z : Nat → Nat} {r9 : Int32} {m9 : Mem} (X : Cx Γ b cX9_people 9 RX9 (some .int) rmX9_people) (hret : ∀ (pc : Nat) (lv : List (Nat × Value)), decode cX9_people pc = .ok (.ireturn, 1) → narrow .int (.int r9) = .int r9 → Go Γ b (sg ad nt z) 0 0 pc lv [.int r9] m9) (v3 : Int32) (v4 : Int32) (xv5 : Nat) (hxv5 : isS xv5) (m0 : Mem) (hf : X9_people_56 v3 v4 xv5 m0 = some (r9, m9)) : Go Γ b (sg ad nt z) 0 0 56 [(0, .ref (ad 0)), (3, .int v3), (4, .int v4), (5, .ref (ad xv5))] [] m0 := by
  refine g_aload X 3 dX9_people_56 rfl ?_
  obtain ⟨r58, m58, h58, hf⟩ := bi_i hf
  refine g_eVI X xv5 5 [] kV_X9_201 (c_X6_isMissing hxv5 h58) dX9_people_58 rfl rfl (S_lt0 hxv5) (S_kd0 hxv5) (by decide) rfl rfl ⟨(Nat.le_of_ble_eq_true rfl), (Nat.le_of_ble_eq_true rfl)⟩ ⟨rfl, rfl⟩ ⟨(Nat.zero_le _), (Nat.zero_le _)⟩ (Nat.le_of_ble_eq_true rfl) ?_
  refine g_if_eq X (tgt := 67) dX9_people_61 (by decide) (fun c61 => ?_) (fun c61 => ?_)
  · have hf := it c61 hf
    refine g_iconst X (v := 0) dX9_people_67 (by decide) ?_
    refine g_istore X (lv' := [(6, .int (0 : Int32)), (0, .ref (ad 0)), (3, .int v3), (4, .int v4), (5, .ref (ad xv5))]) dX9_people_68 (by decide) rfl ?_
    refine g_iconst X (v := 0) dX9_people_70 (by decide) ?_
    refine g_istore X (lv' := [(7, .int (0 : Int32)), (6, .int (0 : Int32)), (0, .ref (ad 0)), (3, .int v3), (4, .int v4), (5, .ref (ad xv5))]) dX9_people_71 (by decide) rfl ?_
    refine g_pick [2, 3, 4, 5, 1, 0] (lv' := [(0, .ref (ad 0)), (3, .int v3), (4, .int v4), (5, .ref (ad xv5)), (6, .int (0 : Int32)), (7, .int (0 : Int32))]) rfl ?_
    exact w_X9_people_73 X hret 10000 v3 v4 xv5 (0 : Int32) (0 : Int32) hxv5 m58 hf
  · have hf := ie c61 hf
    refine g_bipush X (v := -11) dX9_people_64 (by decide) ?_
    obtain ⟨rfl, rfl⟩ := lf2 hf
    exact hret 66 _ dX9_people_66 rfl
set_option maxRecDepth 100000 in
set_option maxHeartbeats 4000000 in
theorem c_X9_people {l : Launch} {G : GG} {b : Nat} {ad : Nat → Nat} {nt : Nat} {z : Nat → Nat} {p0 : Int32} {p1 : Int32} {p2 : Int32} {p3 : Int32} {m0 : Mem} {r9 : Int32} {m9 : Mem} (hf : X9_people p0 p1 p2 p3 m0 = some (r9, m9)) : MtI l yX9_people cX9_people 9 (some .int) rmX9_people G b (sg ad nt z) m0 [.ref (ad 0), .int p0, .int p1, .int p2, .int p3] (pEI r9 (sg ad nt z) m9) := by
  refine mtI_of (by decide) (Nat.le_of_ble_eq_true rfl) .int rfl (fun Γ hG X hnm hr => ?_)
  have hret : ∀ (pc : Nat) (lv : List (Nat × Value)), decode cX9_people pc = .ok (.ireturn, 1) → narrow .int (.int r9) = .int r9 → Go Γ b (sg ad nt z) 0 0 pc lv [.int r9] m9 := fun pc lv d hn => hr pc lv _ _ _ d ⟨rfl, rfl, rfl⟩ hn
  show Go Γ b (sg ad nt z) 0 0 0 [(0, .ref (ad 0)), (1, .int p0), (2, .int p1), (3, .int p2), (4, .int p3)] [] m0
  refine g_aload_n X 0 dX9_people_0 rfl rfl ?_
  refine g_iload_n X 1 dX9_people_1 rfl rfl ?_
  obtain ⟨r2, m2, h2, hf⟩ := bq_i hf
  have ok2 := shOk h2
  cases r2 with
  | none =>
    refine g_eVQ X 0 8 [.int p0] kV_X9_197 (c_X9_sheetOf h2) dX9_people_2 rfl rfl (sgN (by decide)) rfl (by decide) rfl rfl ⟨(Nat.le_of_ble_eq_true rfl), (Nat.le_of_ble_eq_true rfl)⟩ ⟨rfl, rfl⟩ ⟨(Nat.zero_le _), (Nat.zero_le _)⟩ (Nat.le_of_ble_eq_true rfl) ?_
    refine g_astoreN X (lv' := [(5, .null), (0, .ref (ad 0)), (1, .int p0), (2, .int p1), (3, .int p2), (4, .int p3)]) dX9_people_5 (by decide) rfl ?_
    refine g_aloadN X 0 dX9_people_7 rfl ?_
    refine g_ifnullN X (tgt := 33) dX9_people_9 (by decide) ?_
    refine g_bipush X (v := -2) dX9_people_33 (by decide) ?_
    obtain ⟨rfl, rfl⟩ := lf2 hf
    exact hret 35 _ dX9_people_35 rfl
  | some w2 =>
    have fw2 : isS w2 := ok2 _ rfl
    refine g_eVQ X 0 8 [.int p0] kV_X9_197 (c_X9_sheetOf h2) dX9_people_2 rfl rfl (sgN (by decide)) rfl (by decide) rfl rfl ⟨(Nat.le_of_ble_eq_true rfl), (Nat.le_of_ble_eq_true rfl)⟩ ⟨rfl, rfl⟩ ⟨(Nat.zero_le _), (Nat.zero_le _)⟩ (Nat.le_of_ble_eq_true rfl) ?_
    refine g_astore X (lv' := [(5, .ref (ad w2)), (0, .ref (ad 0)), (1, .int p0), (2, .int p1), (3, .int p2), (4, .int p3)]) dX9_people_5 (by decide) rfl ?_
    refine g_aload X 0 dX9_people_7 rfl ?_
    refine g_ifnull X dX9_people_9 ?_
    refine g_iload_n X 3 dX9_people_12 rfl rfl ?_
    refine g_if_lt X (tgt := 33) dX9_people_13 (by decide) (fun c13 => ?_) (fun c13 => ?_)
    · have hf := it c13 hf
      refine g_bipush X (v := -2) dX9_people_33 (by decide) ?_
      obtain ⟨rfl, rfl⟩ := lf2 hf
      exact hret 35 _ dX9_people_35 rfl
    · have hf := ie c13 hf
      refine g_iload_n X 3 dX9_people_16 rfl rfl ?_
      refine g_iconst X (v := 2) dX9_people_17 (by decide) ?_
      refine g_icmp_gt X (tgt := 33) dX9_people_18 (by decide) (fun c18 => ?_) (fun c18 => ?_)
      · have hf := it c18 hf
        refine g_bipush X (v := -2) dX9_people_33 (by decide) ?_
        obtain ⟨rfl, rfl⟩ := lf2 hf
        exact hret 35 _ dX9_people_35 rfl
      · have hf := ie c18 hf
        refine g_iload X 5 dX9_people_21 rfl ?_
        refine g_if_lt X (tgt := 33) dX9_people_23 (by decide) (fun c23 => ?_) (fun c23 => ?_)
        · have hf := it c23 hf
          refine g_bipush X (v := -2) dX9_people_33 (by decide) ?_
          obtain ⟨rfl, rfl⟩ := lf2 hf
          exact hret 35 _ dX9_people_35 rfl
        · have hf := ie c23 hf
          refine g_iload X 5 dX9_people_26 rfl ?_
          refine g_bipush X (v := 6) dX9_people_28 (by decide) ?_
          refine g_icmp_le X (tgt := 36) dX9_people_30 (by decide) (fun c30 => ?_) (fun c30 => ?_)
          · have hf := it c30 hf
            refine g_aload X 0 dX9_people_36 rfl ?_
            obtain ⟨r38, m38, h38, hf⟩ := bi_i hf
            refine g_eVI X w2 5 [] kV_X9_201 (c_X6_isMissing fw2 h38) dX9_people_38 rfl rfl (S_lt0 fw2) (S_kd0 fw2) (by decide) rfl rfl ⟨(Nat.le_of_ble_eq_true rfl), (Nat.le_of_ble_eq_true rfl)⟩ ⟨rfl, rfl⟩ ⟨(Nat.zero_le _), (Nat.zero_le _)⟩ (Nat.le_of_ble_eq_true rfl) ?_
            refine g_if_ne X (tgt := 56) dX9_people_41 (by decide) (fun c41 => ?_) (fun c41 => ?_)
            · have hf := ie c41 hf
              refine g_pick [1, 4, 5, 0] (lv' := [(0, .ref (ad 0)), (3, .int p2), (4, .int p3), (5, .ref (ad w2))]) rfl ?_
              exact w_X9_people_56 X hret p2 p3 w2 fw2 m38 hf
            · have hf := it c41 hf
              refine g_aload X 0 dX9_people_44 rfl ?_
              refine g_getI X w2 5 0 dX9_people_46 (S_lt0 fw2) (S_kd0 fw2) (by decide) rfl iw_X6 (by decide) rfl q_fl_X9_249 ?_
              refine g_iload_n X 3 dX9_people_49 rfl rfl ?_
              refine g_icmp_eq X (tgt := 56) dX9_people_50 (by decide) (fun c50 => ?_) (fun c50 => ?_)
              · have hf := it c50 hf
                refine g_pick [1, 4, 5, 0] (lv' := [(0, .ref (ad 0)), (3, .int p2), (4, .int p3), (5, .ref (ad w2))]) rfl ?_
                exact w_X9_people_56 X hret p2 p3 w2 fw2 m38 hf
              · have hf := ie c50 hf
                refine g_bipush X (v := -13) dX9_people_53 (by decide) ?_
                obtain ⟨rfl, rfl⟩ := lf2 hf
                exact hret 55 _ dX9_people_55 rfl
          · have hf := ie c30 hf
            refine g_bipush X (v := -2) dX9_people_33 (by decide) ?_
            obtain ⟨rfl, rfl⟩ := lf2 hf
            exact hret 35 _ dX9_people_35 rfl

theorem kS_X9_261 : wcS RX9 261 yX1_isUnder cX1_isUnder 4 (some .boolean) 2 := ⟨q_ml_X9_261, q_st_yX1_isUnder, q_in_X1, q_co_yX1_isUnder, by decide +kernel⟩

def X9_taken (p0 : Int32) (p1 : Int32) (m0 : Mem) : Option (Int32 × Mem) :=
  bi (X1_isKind p1 m0) fun r1 m1 =>
  if r1 = 0 then
    some ((-2 : Int32), m1)
  else
    bi (X9_isPerson p0 m1) fun r12 m12 =>
    if r12 = 0 then
      some ((-11 : Int32), m12)
    else
      if inn p0 6 then
      bi (X1_isUnder (m12.1 6 p0.toNatClampNeg) p1 m12) fun r31 m31 =>
      if r31 = 0 then
        some ((-13 : Int32), m31)
      else
        if inn p0 6 then
        some (m31.1 7 p0.toNatClampNeg, m31)
        else none
      else none
abbrev rmX9_taken : Room := { frames := 2, cells := 0, slots := 0, locals := 43 }

set_option maxRecDepth 100000 in
set_option maxHeartbeats 4000000 in
theorem c_X9_taken {l : Launch} {G : GG} {b : Nat} {ad : Nat → Nat} {nt : Nat} {z : Nat → Nat} {p0 : Int32} {p1 : Int32} {m0 : Mem} {r9 : Int32} {m9 : Mem} (hf : X9_taken p0 p1 m0 = some (r9, m9)) : MtI l yX9_taken cX9_taken 3 (some .int) rmX9_taken G b (sg ad nt z) m0 [.ref (ad 0), .int p0, .int p1] (pEI r9 (sg ad nt z) m9) := by
  refine mtI_of (by decide) (Nat.le_of_ble_eq_true rfl) .int rfl (fun Γ hG X hnm hr => ?_)
  have hret : ∀ (pc : Nat) (lv : List (Nat × Value)), decode cX9_taken pc = .ok (.ireturn, 1) → narrow .int (.int r9) = .int r9 → Go Γ b (sg ad nt z) 0 0 pc lv [.int r9] m9 := fun pc lv d hn => hr pc lv _ _ _ d ⟨rfl, rfl, rfl⟩ hn
  show Go Γ b (sg ad nt z) 0 0 0 [(0, .ref (ad 0)), (1, .int p0), (2, .int p1)] [] m0
  refine g_iload_n X 2 dX9_taken_0 rfl rfl ?_
  obtain ⟨r1, m1, h1, hf⟩ := bi_i hf
  refine g_eSI X [.int p1] kS_X9_105 (c_X1_isKind h1) dX9_taken_1 rfl rfl ⟨(Nat.le_of_ble_eq_true rfl), (Nat.le_of_ble_eq_true rfl)⟩ ⟨rfl, rfl⟩ ⟨(Nat.zero_le _), (Nat.zero_le _)⟩ (Nat.le_of_ble_eq_true rfl) ?_
  refine g_if_ne X (tgt := 10) dX9_taken_4 (by decide) (fun c4 => ?_) (fun c4 => ?_)
  · have hf := ie c4 hf
    refine g_aload_n X 0 dX9_taken_10 rfl rfl ?_
    refine g_iload_n X 1 dX9_taken_11 rfl rfl ?_
    obtain ⟨r12, m12, h12, hf⟩ := bi_i hf
    refine g_eVI X 0 8 [.int p0] kV_X9_86 (c_X9_isPerson h12) dX9_taken_12 rfl rfl (sgN (by decide)) rfl (by decide) rfl rfl ⟨(Nat.le_of_ble_eq_true rfl), (Nat.le_of_ble_eq_true rfl)⟩ ⟨rfl, rfl⟩ ⟨(Nat.zero_le _), (Nat.zero_le _)⟩ (Nat.le_of_ble_eq_true rfl) ?_
    refine g_if_ne X (tgt := 21) dX9_taken_15 (by decide) (fun c15 => ?_) (fun c15 => ?_)
    · have hf := ie c15 hf
      refine g_aload_n X 0 dX9_taken_21 rfl rfl ?_
      refine g_getr X (x := ad 5) 0 8 1 dX9_taken_22 (sgN (by decide)) rfl (by decide) rfl iw_X9 (by decide) rfl q_fl_X9_19 rfl ?_
      refine g_getr X (x := ad 6) 5 0 3 dX9_taken_25 (sgN (by decide)) rfl (by decide) rfl iw_X0 (by decide) rfl q_fl_X9_220 rfl ?_
      refine g_iload_n X 1 dX9_taken_28 rfl rfl ?_
      obtain ⟨h29, hf⟩ := grd hf
      refine g_iald X 6 (n := 6) dX9_taken_29 (sgN (by decide)) rfl rfl h29 ?_
      refine g_iload_n X 2 dX9_taken_30 rfl rfl ?_
      obtain ⟨r31, m31, h31, hf⟩ := bi_i hf
      refine g_eSI X [.int (m12.1 6 p0.toNatClampNeg), .int p1] kS_X9_261 (c_X1_isUnder h31) dX9_taken_31 rfl rfl ⟨(Nat.le_of_ble_eq_true rfl), (Nat.le_of_ble_eq_true rfl)⟩ ⟨rfl, rfl⟩ ⟨(Nat.zero_le _), (Nat.zero_le _)⟩ (Nat.le_of_ble_eq_true rfl) ?_
      refine g_if_eq X (tgt := 49) dX9_taken_34 (by decide) (fun c34 => ?_) (fun c34 => ?_)
      · have hf := it c34 hf
        refine g_bipush X (v := -13) dX9_taken_49 (by decide) ?_
        obtain ⟨rfl, rfl⟩ := lf2 hf
        exact hret 51 _ dX9_taken_51 rfl
      · have hf := ie c34 hf
        refine g_aload_n X 0 dX9_taken_37 rfl rfl ?_
        refine g_getr X (x := ad 5) 0 8 1 dX9_taken_38 (sgN (by decide)) rfl (by decide) rfl iw_X9 (by decide) rfl q_fl_X9_19 rfl ?_
        refine g_getr X (x := ad 7) 5 0 4 dX9_taken_41 (sgN (by decide)) rfl (by decide) rfl iw_X0 (by decide) rfl q_fl_X9_223 rfl ?_
        refine g_iload_n X 1 dX9_taken_44 rfl rfl ?_
        obtain ⟨h45, hf⟩ := grd hf
        refine g_iald X 7 (n := 6) dX9_taken_45 (sgN (by decide)) rfl rfl h45 ?_
        refine g_goto X (tgt := 51) dX9_taken_46 (by decide) ?_
        obtain ⟨rfl, rfl⟩ := lf2 hf
        exact hret 51 _ dX9_taken_51 rfl
    · have hf := it c15 hf
      refine g_bipush X (v := -11) dX9_taken_18 (by decide) ?_
      obtain ⟨rfl, rfl⟩ := lf2 hf
      exact hret 20 _ dX9_taken_20 rfl
  · have hf := it c4 hf
    refine g_bipush X (v := -2) dX9_taken_7 (by decide) ?_
    obtain ⟨rfl, rfl⟩ := lf2 hf
    exact hret 9 _ dX9_taken_9 rfl
