theorem kV_X5_44 : wcV RX5 44 RX5 yX5_keyOf cX5_keyOf 6 (some .long) 3 := ⟨q_ml_X5_44, q_im_yX5_keyOf, q_se_yX5_keyOf, q_in_X5, q_co_yX5_keyOf, by decide +kernel⟩

theorem kV_X5_73 : wcV RX5 73 RX4 yX4_farFrom cX4_farFrom 3 (some .int) 2 := ⟨q_ml_X5_73, q_im_yX4_farFrom, q_se_yX4_farFrom, q_in_X4, q_co_yX4_farFrom, by decide +kernel⟩

theorem kV_X5_82 : wcV RX5 82 RX7 yX7_value cX7_value 9 (some .int) 3 := ⟨q_ml_X5_82, q_im_yX7_value, q_se_yX7_value, q_in_X7, q_co_yX7_value, by decide +kernel⟩

def X5_says_222 (nt : Nat) (z : Nat → Nat) (f : Nat) (xv6 : Nat) (v9 : Int32) (s0 : Int32) (s1 : Int32) (xs2 : Nat) (m0 : Mem) : Option (Int32 × Mem) :=
  if inn s1 24 then
  if inn v9 24 then
  some ((pI (pI m0 (xs2 + 1) s1.toNatClampNeg s0) xv6 1 (((pI m0 (xs2 + 1) s1.toNatClampNeg s0).1 xv6 1) ||| ((1 : Int32) <<< (v9 &&& 31)))).1 (xv6 + 1) v9.toNatClampNeg, pI (pI m0 (xs2 + 1) s1.toNatClampNeg s0) xv6 1 (((pI m0 (xs2 + 1) s1.toNatClampNeg s0).1 xv6 1) ||| ((1 : Int32) <<< (v9 &&& 31))))
  else none
  else none
def X5_says_168 (nt : Nat) (z : Nat → Nat) (f : Nat) (v3 : Int32) (xv5 : Nat) (xv6 : Nat) (v9 : Int32) (s0 : Int32) (s1 : Int32) (m0 : Mem) : Option (Int32 × Mem) :=
  if inn s1 6 then
  if inn (5 : Int32) 6 then
  bi (X7_value nt z xv5 v3 (pI (pI m0 36 s1.toNatClampNeg s0) 36 (5 : Int32).toNatClampNeg ((pI m0 36 s1.toNatClampNeg s0).1 f 1))) fun r190 m190 =>
  if v3 = 0 then
    X5_says_222 nt z f xv6 v9 r190 v9 xv6 m190
  else
    X5_says_222 nt z f xv6 v9 (if (0 : Int32) < (if r190 < (99 : Int32) then r190 else (99 : Int32)) then (if r190 < (99 : Int32) then r190 else (99 : Int32)) else (0 : Int32)) v9 xv6 m190
  else none
  else none
def X5_says_60 (nt : Nat) (z : Nat → Nat) (f : Nat) (v2 : Int32) (v3 : Int32) (v4 : Int32) (xv5 : Nat) (xv6 : Nat) (m0 : Mem) : Option (Int32 × Mem) :=
  if (((m0.1 xv6 1) >>> (((v3 * (8 : Int32)) + v4) &&& 31)) &&& (1 : Int32)) = 0 then
    if inn (0 : Int32) 6 then
    if inn v2 6 then
    if inn (1 : Int32) 6 then
    if inn v2 6 then
    bi (J6_bitCount_0f7a4 ((pI (pI m0 36 (0 : Int32).toNatClampNeg v4) 36 (1 : Int32).toNatClampNeg ((pI m0 36 (0 : Int32).toNatClampNeg v4).1 (f + 2) v2.toNatClampNeg)).1 (f + 4) v2.toNatClampNeg) (pI (pI m0 36 (0 : Int32).toNatClampNeg v4) 36 (1 : Int32).toNatClampNeg ((pI m0 36 (0 : Int32).toNatClampNeg v4).1 (f + 2) v2.toNatClampNeg))) fun r122 m122 =>
    if inn (2 : Int32) 6 then
    if inn v2 6 then
    bi (X4_farFrom ((pI m122 36 (2 : Int32).toNatClampNeg r122).1 (f + 3) v2.toNatClampNeg) v4 (pI m122 36 (2 : Int32).toNatClampNeg r122)) fun r143 m143 =>
    if inn (3 : Int32) 6 then
    if inn v2 6 then
    if ((pI m143 36 (3 : Int32).toNatClampNeg r143).1 (f + 3) v2.toNatClampNeg) = v4 then
      X5_says_168 nt z f v3 xv5 xv6 ((v3 * (8 : Int32)) + v4) (1 : Int32) (4 : Int32) (pI m143 36 (3 : Int32).toNatClampNeg r143)
    else
      X5_says_168 nt z f v3 xv5 xv6 ((v3 * (8 : Int32)) + v4) (0 : Int32) (4 : Int32) (pI m143 36 (3 : Int32).toNatClampNeg r143)
    else none
    else none
    else none
    else none
    else none
    else none
    else none
    else none
  else
    if inn ((v3 * (8 : Int32)) + v4) 24 then
    some (m0.1 (xv6 + 1) ((v3 * (8 : Int32)) + v4).toNatClampNeg, m0)
    else none
def X5_says (nt : Nat) (z : Nat → Nat) (f : Nat) (p1 : Int32) (p2 : Int32) (p3 : Int32) (m0 : Mem) : Option (Int32 × Mem) :=
  if inn (m0.1 f 2) 6 then
  if (m0.1 f 2).toNatClampNeg ≤ nt then
    wi (tid (m0.1 f 2).toNatClampNeg) fun w8 =>
    if inn p1 6 then
    wi (38 + 2 * p1.toNatClampNeg) fun w23 =>
    bl (X5_keyOf f w8 p1 m0) fun r31 m31 =>
    if (lg_cmp (m31.2 w23 0) r31) = 0 then
      X5_says_60 nt z f p1 p2 p3 w8 w23 m31
    else
      X5_says_60 nt z f p1 p2 p3 w8 w23 (pI (pJ m31 w23 0 r31) w23 1 (0 : Int32))
    else none
  else
    some ((0 : Int32), m0)
  else none
abbrev rmX5_says : Room := { frames := 2, cells := 0, slots := 0, locals := 60 }
set_option maxRecDepth 100000 in
set_option maxHeartbeats 4000000 in
theorem w_X5_says_222 {Γ : Ga} {b : Nat} {ad : Nat → Nat} {nt : Nat} {z : Nat → Nat} {f : Nat} {r9 : Int32} {m9 : Mem} (hf9 : isF f) (X : Cx Γ b cX5_says 11 RX5 (some .int) rmX5_says) (hret : ∀ (pc : Nat) (lv : List (Nat × Value)), decode cX5_says pc = .ok (.ireturn, 1) → narrow .int (.int r9) = .int r9 → Go Γ b (sg ad nt z) 0 0 pc lv [.int r9] m9) (xv6 : Nat) (v9 : Int32) (s0 : Int32) (s1 : Int32) (xs2 : Nat) (hxv6 : isV xv6) (hxs2 : isV xs2) (m0 : Mem) (hf : X5_says_222 nt z f xv6 v9 s0 s1 xs2 m0 = some (r9, m9)) : Go Γ b (sg ad nt z) 0 0 222 [(6, .ref (ad xv6)), (9, .int v9)] [.int s0, .int s1, .ref (ad (xs2 + 1))] m0 := by
  obtain ⟨h222, hf⟩ := grd hf
  refine g_iast X (xs2 + 1) (n := 24) dX5_says_222 (V_lt1 hxs2) (V_kd1 hxs2) (V_ln1 hxs2) h222 ?_
  refine g_aload X 0 dX5_says_223 rfl ?_
  refine g_dup X dX5_says_225 rfl ?_
  refine g_getI X xv6 7 1 dX5_says_226 (V_lt0 hxv6) (V_kd0 hxv6) (by decide) rfl iw_X8 (by decide) rfl q_fl_X5_52 ?_
  refine g_iconst X (v := 1) dX5_says_229 (by decide) ?_
  refine g_iload X 1 dX5_says_230 rfl ?_
  refine g_ishl X dX5_says_232 ?_
  refine g_ior X dX5_says_233 ?_
  refine g_putI X (tyf := tyX8) xv6 7 1 dX5_says_234 (V_lt0 hxv6) (V_kd0 hxv6) (by decide) rfl iw_X8 (by decide) rfl q_fl_X5_52 tyX8_ok nmX8 rfl rfl rfl ?_
  refine g_aload X 0 dX5_says_237 rfl ?_
  refine g_getr X (x := ad (xv6 + 1)) xv6 7 2 dX5_says_239 (V_lt0 hxv6) (V_kd0 hxv6) (by decide) rfl iw_X8 (by decide) rfl q_fl_X5_55 (V_r2 hxv6) ?_
  refine g_iload X 1 dX5_says_242 rfl ?_
  obtain ⟨h244, hf⟩ := grd hf
  refine g_iald X (xv6 + 1) (n := 24) dX5_says_244 (V_lt1 hxv6) (V_kd1 hxv6) (V_ln1 hxv6) h244 ?_
  obtain ⟨rfl, rfl⟩ := lf2 hf
  exact hret 245 _ dX5_says_245 rfl
set_option maxRecDepth 100000 in
set_option maxHeartbeats 4000000 in
theorem w_X5_says_168 {Γ : Ga} {b : Nat} {ad : Nat → Nat} {nt : Nat} {z : Nat → Nat} {f : Nat} {r9 : Int32} {m9 : Mem} (hf9 : isF f) (X : Cx Γ b cX5_says 11 RX5 (some .int) rmX5_says) (hret : ∀ (pc : Nat) (lv : List (Nat × Value)), decode cX5_says pc = .ok (.ireturn, 1) → narrow .int (.int r9) = .int r9 → Go Γ b (sg ad nt z) 0 0 pc lv [.int r9] m9) (v3 : Int32) (xv5 : Nat) (xv6 : Nat) (v9 : Int32) (s0 : Int32) (s1 : Int32) (hxv5 : isT nt xv5) (hxv6 : isV xv6) (m0 : Mem) (hf : X5_says_168 nt z f v3 xv5 xv6 v9 s0 s1 m0 = some (r9, m9)) : Go Γ b (sg ad nt z) 0 0 168 [(0, .ref (ad 33)), (1, .ref (ad f)), (3, .int v3), (5, .ref (ad xv5)), (6, .ref (ad xv6)), (9, .int v9)] [.int s0, .int s1, .ref (ad 36)] m0 := by
  obtain ⟨h168, hf⟩ := grd hf
  refine g_iast X 36 (n := 6) dX5_says_168 (sgN (by decide)) rfl rfl h168 ?_
  refine g_aload_n X 0 dX5_says_169 rfl rfl ?_
  refine g_getr X (x := ad 36) 33 4 4 dX5_says_170 (sgN (by decide)) rfl (by decide) rfl iw_X5 (by decide) rfl q_fl_X5_27 rfl ?_
  refine g_iconst X (v := 5) dX5_says_173 (by decide) ?_
  refine g_aload_n X 1 dX5_says_174 rfl rfl ?_
  refine g_getI X f 0 1 dX5_says_175 (F_lt0 hf9) (F_kd0 hf9) (by decide) rfl iw_X0 (by decide) rfl q_fl_X5_79 ?_
  obtain ⟨h178, hf⟩ := grd hf
  refine g_iast X 36 (n := 6) dX5_says_178 (sgN (by decide)) rfl rfl h178 ?_
  refine g_aload X 3 dX5_says_179 rfl ?_
  refine g_iload_n X 2 dX5_says_181 rfl rfl ?_
  refine g_aload_n X 0 dX5_says_182 rfl rfl ?_
  refine g_getr X (x := ad 36) 33 4 4 dX5_says_183 (sgN (by decide)) rfl (by decide) rfl iw_X5 (by decide) rfl q_fl_X5_27 rfl ?_
  refine g_aload_n X 0 dX5_says_186 rfl rfl ?_
  refine g_getr X (x := ad 37) 33 4 5 dX5_says_187 (sgN (by decide)) rfl (by decide) rfl iw_X5 (by decide) rfl q_fl_X5_31 rfl ?_
  obtain ⟨r190, m190, h190, hf⟩ := bi_i hf
  refine g_eVI X xv5 6 [.int v3, .ref (ad 36), .ref (ad 37)] kV_X5_82 (c_X7_value hxv5 h190) dX5_says_190 rfl rfl (T_lt0 hxv5) (T_kd0 hxv5) (by decide) rfl rfl ⟨(Nat.le_of_ble_eq_true rfl), (Nat.le_of_ble_eq_true rfl)⟩ ⟨rfl, rfl⟩ ⟨(Nat.zero_le _), (Nat.zero_le _)⟩ (Nat.le_of_ble_eq_true rfl) ?_
  refine g_istore X (lv' := [(10, .int r190), (0, .ref (ad 33)), (1, .ref (ad f)), (3, .int v3), (5, .ref (ad xv5)), (6, .ref (ad xv6)), (9, .int v9)]) dX5_says_193 (by decide) rfl ?_
  refine g_aload X 5 dX5_says_195 rfl ?_
  refine g_getr X (x := ad (xv6 + 1)) xv6 7 2 dX5_says_197 (V_lt0 hxv6) (V_kd0 hxv6) (by decide) rfl iw_X8 (by decide) rfl q_fl_X5_55 (V_r2 hxv6) ?_
  refine g_iload X 6 dX5_says_200 rfl ?_
  refine g_iload_n X 3 dX5_says_202 rfl rfl ?_
  refine g_if_ne X (tgt := 211) dX5_says_203 (by decide) (fun c203 => ?_) (fun c203 => ?_)
  · have hf := ie c203 hf
    refine g_iconst X (v := 0) dX5_says_211 (by decide) ?_
    refine g_bipush X (v := 99) dX5_says_212 (by decide) ?_
    refine g_iload X 0 dX5_says_214 rfl ?_
    refine g_mmin X dX5_says_216 q_ml_X5_86 q_st_yJ9_min_7cf53 q_in_J9 q_co_yJ9_min_7cf53 (Nat.le_of_ble_eq_true rfl) (Nat.le_of_ble_eq_true rfl) ⟨Nat.zero_le _, Nat.zero_le _⟩ ?_
    refine g_mmax X dX5_says_219 q_ml_X5_91 q_st_yJ9_max_7cf53 q_in_J9 q_co_yJ9_max_7cf53 (Nat.le_of_ble_eq_true rfl) (Nat.le_of_ble_eq_true rfl) ⟨Nat.zero_le _, Nat.zero_le _⟩ ?_
    refine g_pick [5, 6] (lv' := [(6, .ref (ad xv6)), (9, .int v9)]) rfl ?_
    exact w_X5_says_222 hf9 X hret xv6 v9 (if (0 : Int32) < (if r190 < (99 : Int32) then r190 else (99 : Int32)) then (if r190 < (99 : Int32) then r190 else (99 : Int32)) else (0 : Int32)) v9 xv6 hxv6 hxv6 m190 hf
  · have hf := it c203 hf
    refine g_iload X 0 dX5_says_206 rfl ?_
    refine g_goto X (tgt := 222) dX5_says_208 (by decide) ?_
    refine g_pick [5, 6] (lv' := [(6, .ref (ad xv6)), (9, .int v9)]) rfl ?_
    exact w_X5_says_222 hf9 X hret xv6 v9 r190 v9 xv6 hxv6 hxv6 m190 hf
set_option maxRecDepth 100000 in
set_option maxHeartbeats 4000000 in
theorem w_X5_says_60 {Γ : Ga} {b : Nat} {ad : Nat → Nat} {nt : Nat} {z : Nat → Nat} {f : Nat} {r9 : Int32} {m9 : Mem} (hf9 : isF f) (X : Cx Γ b cX5_says 11 RX5 (some .int) rmX5_says) (hret : ∀ (pc : Nat) (lv : List (Nat × Value)), decode cX5_says pc = .ok (.ireturn, 1) → narrow .int (.int r9) = .int r9 → Go Γ b (sg ad nt z) 0 0 pc lv [.int r9] m9) (v2 : Int32) (v3 : Int32) (v4 : Int32) (xv5 : Nat) (xv6 : Nat) (hxv5 : isT nt xv5) (hxv6 : isV xv6) (m0 : Mem) (hf : X5_says_60 nt z f v2 v3 v4 xv5 xv6 m0 = some (r9, m9)) : Go Γ b (sg ad nt z) 0 0 60 [(0, .ref (ad 33)), (1, .ref (ad f)), (2, .int v2), (3, .int v3), (4, .int v4), (5, .ref (ad xv5)), (6, .ref (ad xv6))] [] m0 := by
  refine g_iload_n X 3 dX5_says_60 rfl rfl ?_
  refine g_bipush X (v := 8) dX5_says_61 (by decide) ?_
  refine g_imul X dX5_says_63 ?_
  refine g_iload X 4 dX5_says_64 rfl ?_
  refine g_iadd X dX5_says_66 ?_
  refine g_istore X (lv' := [(9, .int ((v3 * (8 : Int32)) + v4)), (0, .ref (ad 33)), (1, .ref (ad f)), (2, .int v2), (3, .int v3), (4, .int v4), (5, .ref (ad xv5)), (6, .ref (ad xv6))]) dX5_says_67 (by decide) rfl ?_
  refine g_aload X 7 dX5_says_69 rfl ?_
  refine g_getI X xv6 7 1 dX5_says_71 (V_lt0 hxv6) (V_kd0 hxv6) (by decide) rfl iw_X8 (by decide) rfl q_fl_X5_52 ?_
  refine g_iload X 0 dX5_says_74 rfl ?_
  refine g_ishr X dX5_says_76 ?_
  refine g_iconst X (v := 1) dX5_says_77 (by decide) ?_
  refine g_iand X dX5_says_78 ?_
  refine g_if_eq X (tgt := 91) dX5_says_79 (by decide) (fun c79 => ?_) (fun c79 => ?_)
  · have hf := it c79 hf
    refine g_aload_n X 1 dX5_says_91 rfl rfl ?_
    refine g_getr X (x := ad 36) 33 4 4 dX5_says_92 (sgN (by decide)) rfl (by decide) rfl iw_X5 (by decide) rfl q_fl_X5_27 rfl ?_
    refine g_iconst X (v := 0) dX5_says_95 (by decide) ?_
    refine g_iload X 5 dX5_says_96 rfl ?_
    obtain ⟨h98, hf⟩ := grd hf
    refine g_iast X 36 (n := 6) dX5_says_98 (sgN (by decide)) rfl rfl h98 ?_
    refine g_aload_n X 1 dX5_says_99 rfl rfl ?_
    refine g_getr X (x := ad 36) 33 4 4 dX5_says_100 (sgN (by decide)) rfl (by decide) rfl iw_X5 (by decide) rfl q_fl_X5_27 rfl ?_
    refine g_iconst X (v := 1) dX5_says_103 (by decide) ?_
    refine g_aload_n X 2 dX5_says_104 rfl rfl ?_
    refine g_getr X (x := ad (f + 2)) f 0 4 dX5_says_105 (F_lt0 hf9) (F_kd0 hf9) (by decide) rfl iw_X0 (by decide) rfl q_fl_X5_58 (F_r4 hf9) ?_
    refine g_iload_n X 3 dX5_says_108 rfl rfl ?_
    obtain ⟨h109, hf⟩ := grd hf
    refine g_iald X (f + 2) (n := 6) dX5_says_109 (F_lt2 hf9) (F_kd2 hf9) (F_ln2 hf9) h109 ?_
    obtain ⟨h110, hf⟩ := grd hf
    refine g_iast X 36 (n := 6) dX5_says_110 (sgN (by decide)) rfl rfl h110 ?_
    refine g_aload_n X 1 dX5_says_111 rfl rfl ?_
    refine g_getr X (x := ad 36) 33 4 4 dX5_says_112 (sgN (by decide)) rfl (by decide) rfl iw_X5 (by decide) rfl q_fl_X5_27 rfl ?_
    refine g_iconst X (v := 2) dX5_says_115 (by decide) ?_
    refine g_aload_n X 2 dX5_says_116 rfl rfl ?_
    refine g_getr X (x := ad (f + 4)) f 0 6 dX5_says_117 (F_lt0 hf9) (F_kd0 hf9) (by decide) rfl iw_X0 (by decide) rfl q_fl_X5_61 (F_r6 hf9) ?_
    refine g_iload_n X 3 dX5_says_120 rfl rfl ?_
    obtain ⟨h121, hf⟩ := grd hf
    refine g_iald X (f + 4) (n := 6) dX5_says_121 (F_lt4 hf9) (F_kd4 hf9) (F_ln4 hf9) h121 ?_
    obtain ⟨r122, m122, h122, hf⟩ := bi_i hf
    refine g_eSI X [.int ((pI (pI m0 36 (0 : Int32).toNatClampNeg v4) 36 (1 : Int32).toNatClampNeg ((pI m0 36 (0 : Int32).toNatClampNeg v4).1 (f + 2) v2.toNatClampNeg)).1 (f + 4) v2.toNatClampNeg)] kS_X5_64 (c_J6_bitCount_0f7a4 h122) dX5_says_122 rfl rfl ⟨(Nat.le_of_ble_eq_true rfl), (Nat.le_of_ble_eq_true rfl)⟩ ⟨rfl, rfl⟩ ⟨(Nat.zero_le _), (Nat.zero_le _)⟩ (Nat.le_of_ble_eq_true rfl) ?_
    obtain ⟨h125, hf⟩ := grd hf
    refine g_iast X 36 (n := 6) dX5_says_125 (sgN (by decide)) rfl rfl h125 ?_
    refine g_aload_n X 1 dX5_says_126 rfl rfl ?_
    refine g_getr X (x := ad 36) 33 4 4 dX5_says_127 (sgN (by decide)) rfl (by decide) rfl iw_X5 (by decide) rfl q_fl_X5_27 rfl ?_
    refine g_iconst X (v := 3) dX5_says_130 (by decide) ?_
    refine g_aload_n X 1 dX5_says_131 rfl rfl ?_
    refine g_getr X (x := ad 1) 33 4 0 dX5_says_132 (sgN (by decide)) rfl (by decide) rfl iw_X5 (by decide) rfl q_fl_X5_34 rfl ?_
    refine g_aload_n X 2 dX5_says_135 rfl rfl ?_
    refine g_getr X (x := ad (f + 3)) f 0 5 dX5_says_136 (F_lt0 hf9) (F_kd0 hf9) (by decide) rfl iw_X0 (by decide) rfl q_fl_X5_70 (F_r5 hf9) ?_
    refine g_iload_n X 3 dX5_says_139 rfl rfl ?_
    obtain ⟨h140, hf⟩ := grd hf
    refine g_iald X (f + 3) (n := 6) dX5_says_140 (F_lt3 hf9) (F_kd3 hf9) (F_ln3 hf9) h140 ?_
    refine g_iload X 5 dX5_says_141 rfl ?_
    obtain ⟨r143, m143, h143, hf⟩ := bi_i hf
    refine g_eVI X 1 3 [.int ((pI m122 36 (2 : Int32).toNatClampNeg r122).1 (f + 3) v2.toNatClampNeg), .int v4] kV_X5_73 (c_X4_farFrom h143) dX5_says_143 rfl rfl (sgN (by decide)) rfl (by decide) rfl rfl ⟨(Nat.le_of_ble_eq_true rfl), (Nat.le_of_ble_eq_true rfl)⟩ ⟨rfl, rfl⟩ ⟨(Nat.zero_le _), (Nat.zero_le _)⟩ (Nat.le_of_ble_eq_true rfl) ?_
    obtain ⟨h146, hf⟩ := grd hf
    refine g_iast X 36 (n := 6) dX5_says_146 (sgN (by decide)) rfl rfl h146 ?_
    refine g_aload_n X 1 dX5_says_147 rfl rfl ?_
    refine g_getr X (x := ad 36) 33 4 4 dX5_says_148 (sgN (by decide)) rfl (by decide) rfl iw_X5 (by decide) rfl q_fl_X5_27 rfl ?_
    refine g_iconst X (v := 4) dX5_says_151 (by decide) ?_
    refine g_aload_n X 2 dX5_says_152 rfl rfl ?_
    refine g_getr X (x := ad (f + 3)) f 0 5 dX5_says_153 (F_lt0 hf9) (F_kd0 hf9) (by decide) rfl iw_X0 (by decide) rfl q_fl_X5_70 (F_r5 hf9) ?_
    refine g_iload_n X 3 dX5_says_156 rfl rfl ?_
    obtain ⟨h157, hf⟩ := grd hf
    refine g_iald X (f + 3) (n := 6) dX5_says_157 (F_lt3 hf9) (F_kd3 hf9) (F_ln3 hf9) h157 ?_
    refine g_iload X 5 dX5_says_158 rfl ?_
    refine g_icmp_ne X (tgt := 167) dX5_says_160 (by decide) (fun c160 => ?_) (fun c160 => ?_)
    · have hf := ie c160 hf
      refine g_iconst X (v := 0) dX5_says_167 (by decide) ?_
      refine g_pick [1, 2, 4, 6, 7, 0] (lv' := [(0, .ref (ad 33)), (1, .ref (ad f)), (3, .int v3), (5, .ref (ad xv5)), (6, .ref (ad xv6)), (9, .int ((v3 * (8 : Int32)) + v4))]) rfl ?_
      exact w_X5_says_168 hf9 X hret v3 xv5 xv6 ((v3 * (8 : Int32)) + v4) (0 : Int32) (4 : Int32) hxv5 hxv6 (pI m143 36 (3 : Int32).toNatClampNeg r143) hf
    · have hf := it c160 hf
      refine g_iconst X (v := 1) dX5_says_163 (by decide) ?_
      refine g_goto X (tgt := 168) dX5_says_164 (by decide) ?_
      refine g_pick [1, 2, 4, 6, 7, 0] (lv' := [(0, .ref (ad 33)), (1, .ref (ad f)), (3, .int v3), (5, .ref (ad xv5)), (6, .ref (ad xv6)), (9, .int ((v3 * (8 : Int32)) + v4))]) rfl ?_
      exact w_X5_says_168 hf9 X hret v3 xv5 xv6 ((v3 * (8 : Int32)) + v4) (1 : Int32) (4 : Int32) hxv5 hxv6 (pI m143 36 (3 : Int32).toNatClampNeg r143) hf
  · have hf := ie c79 hf
    refine g_aload X 7 dX5_says_82 rfl ?_
    refine g_getr X (x := ad (xv6 + 1)) xv6 7 2 dX5_says_84 (V_lt0 hxv6) (V_kd0 hxv6) (by decide) rfl iw_X8 (by decide) rfl q_fl_X5_55 (V_r2 hxv6) ?_
    refine g_iload X 0 dX5_says_87 rfl ?_
    obtain ⟨h89, hf⟩ := grd hf
    refine g_iald X (xv6 + 1) (n := 24) dX5_says_89 (V_lt1 hxv6) (V_kd1 hxv6) (V_ln1 hxv6) h89 ?_
    obtain ⟨rfl, rfl⟩ := lf2 hf
    exact hret 90 _ dX5_says_90 rfl
set_option maxRecDepth 100000 in
set_option maxHeartbeats 4000000 in
theorem c_X5_says {l : Launch} {G : GG} {b : Nat} {ad : Nat → Nat} {nt : Nat} {z : Nat → Nat} {f : Nat} {p1 : Int32} {p2 : Int32} {p3 : Int32} {m0 : Mem} {r9 : Int32} {m9 : Mem} (hf9 : isF f) (hf : X5_says nt z f p1 p2 p3 m0 = some (r9, m9)) : MtI l yX5_says cX5_says 11 (some .int) rmX5_says G b (sg ad nt z) m0 [.ref (ad 33), .ref (ad f), .int p1, .int p2, .int p3] (pEI r9 (sg ad nt z) m9) := by
  refine mtI_of (by decide) (Nat.le_of_ble_eq_true rfl) .int rfl (fun Γ hG X hnm hr => ?_)
  have hret : ∀ (pc : Nat) (lv : List (Nat × Value)), decode cX5_says pc = .ok (.ireturn, 1) → narrow .int (.int r9) = .int r9 → Go Γ b (sg ad nt z) 0 0 pc lv [.int r9] m9 := fun pc lv d hn => hr pc lv _ _ _ d ⟨rfl, rfl, rfl⟩ hn
  show Go Γ b (sg ad nt z) 0 0 0 [(0, .ref (ad 33)), (1, .ref (ad f)), (2, .int p1), (3, .int p2), (4, .int p3)] [] m0
  refine g_aload_n X 0 dX5_says_0 rfl rfl ?_
  refine g_getr X (x := ad 34) 33 4 1 dX5_says_1 (sgN (by decide)) rfl (by decide) rfl iw_X5 (by decide) rfl q_fl_X5_11 rfl ?_
  refine g_aload_n X 1 dX5_says_4 rfl rfl ?_
  refine g_getI X f 0 2 dX5_says_5 (F_lt0 hf9) (F_kd0 hf9) (by decide) rfl iw_X0 (by decide) rfl q_fl_X5_39 ?_
  obtain ⟨h8, hf⟩ := grd hf
  by_cases c8 : (m0.1 f 2).toNatClampNeg ≤ nt
  · have hf := it c8 hf
    obtain ⟨w8, ew8, hf⟩ := wi_i hf
    have fw8 : isT nt w8 := ⟨_, c8, ew8⟩
    refine g_aaldr13 X 34 (n := 6) (x := ad w8) dX5_says_8 (sgN (by decide)) rfl rfl h8 (by rw [ew8]; exact T_at c8) ?_
    refine g_astore X (lv' := [(5, .ref (ad w8)), (0, .ref (ad 33)), (1, .ref (ad f)), (2, .int p1), (3, .int p2), (4, .int p3)]) dX5_says_9 (by decide) rfl ?_
    refine g_aload X 0 dX5_says_11 rfl ?_
    refine g_ifnonnull X (tgt := 18) dX5_says_13 (by decide) ?_
    refine g_aload_n X 1 dX5_says_18 rfl rfl ?_
    refine g_getr X (x := ad 35) 33 4 3 dX5_says_19 (sgN (by decide)) rfl (by decide) rfl iw_X5 (by decide) rfl q_fl_X5_23 rfl ?_
    refine g_iload_n X 3 dX5_says_22 rfl rfl ?_
    obtain ⟨h23, hf⟩ := grd hf
    obtain ⟨w23, ew23, hf⟩ := wi_i hf
    have fw23 : isV w23 := by rw [ew23]; exact V_is (inn_lt h23)
    refine g_aaldr14 X 35 (n := 6) (x := ad w23) dX5_says_23 (sgN (by decide)) rfl rfl h23 (by rw [ew23]; exact V_at (inn_lt h23)) ?_
    refine g_astore X (lv' := [(6, .ref (ad w23)), (5, .ref (ad w8)), (0, .ref (ad 33)), (1, .ref (ad f)), (2, .int p1), (3, .int p2), (4, .int p3)]) dX5_says_24 (by decide) rfl ?_
    refine g_aload_n X 2 dX5_says_26 rfl rfl ?_
    refine g_aload_n X 3 dX5_says_27 rfl rfl ?_
    refine g_iload_n X 4 dX5_says_28 rfl rfl ?_
    refine g_aload X 1 dX5_says_29 rfl ?_
    obtain ⟨r31, m31, h31, hf⟩ := bl_i hf
    refine g_eVL X 33 4 [.ref (ad f), .int p1, .ref (ad w8)] kV_X5_44 (c_X5_keyOf hf9 fw8 h31) dX5_says_31 rfl rfl (sgN (by decide)) rfl (by decide) rfl rfl ⟨(Nat.le_of_ble_eq_true rfl), (Nat.le_of_ble_eq_true rfl)⟩ ⟨rfl, rfl⟩ ⟨(Nat.zero_le _), (Nat.zero_le _)⟩ (Nat.le_of_ble_eq_true rfl) ?_
    refine g_lstore X (lv' := [(7, .long r31), (6, .ref (ad w23)), (5, .ref (ad w8)), (0, .ref (ad 33)), (1, .ref (ad f)), (2, .int p1), (3, .int p2), (4, .int p3)]) dX5_says_34 (by decide) rfl ?_
    refine g_aload X 1 dX5_says_36 rfl ?_
    refine g_getJ X w23 7 0 dX5_says_38 (V_lt0 fw23) (V_kd0 fw23) (by decide) rfl iw_X8 (by decide) rfl q_fl_X5_48 ?_
    refine g_lload X 0 dX5_says_41 rfl ?_
    refine g_lcmp X dX5_says_43 ?_
    refine g_if_eq X (tgt := 60) dX5_says_44 (by decide) (fun c44 => ?_) (fun c44 => ?_)
    · have hf := it c44 hf
      refine g_pick [3, 4, 5, 6, 7, 2, 1] (lv' := [(0, .ref (ad 33)), (1, .ref (ad f)), (2, .int p1), (3, .int p2), (4, .int p3), (5, .ref (ad w8)), (6, .ref (ad w23))]) rfl ?_
      exact w_X5_says_60 hf9 X hret p1 p2 p3 w8 w23 fw8 fw23 m31 hf
    · have hf := ie c44 hf
      refine g_aload X 1 dX5_says_47 rfl ?_
      refine g_lload X 0 dX5_says_49 rfl ?_
      refine g_putJ X (tyf := tyX8) w23 7 0 dX5_says_51 (V_lt0 fw23) (V_kd0 fw23) (by decide) rfl iw_X8 (by decide) rfl q_fl_X5_48 tyX8_ok nmX8 rfl rfl rfl ?_
      refine g_aload X 1 dX5_says_54 rfl ?_
      refine g_iconst X (v := 0) dX5_says_56 (by decide) ?_
      refine g_putI X (tyf := tyX8) w23 7 1 dX5_says_57 (V_lt0 fw23) (V_kd0 fw23) (by decide) rfl iw_X8 (by decide) rfl q_fl_X5_52 tyX8_ok nmX8 rfl rfl rfl ?_
      refine g_pick [3, 4, 5, 6, 7, 2, 1] (lv' := [(0, .ref (ad 33)), (1, .ref (ad f)), (2, .int p1), (3, .int p2), (4, .int p3), (5, .ref (ad w8)), (6, .ref (ad w23))]) rfl ?_
      exact w_X5_says_60 hf9 X hret p1 p2 p3 w8 w23 fw8 fw23 (pI (pJ m31 w23 0 r31) w23 1 (0 : Int32)) hf
  · have hf := ie c8 hf
    refine g_aaldn13 X 34 (n := 6) dX5_says_8 (sgN (by decide)) rfl rfl h8 (T_no c8) ?_
    refine g_astoreN X (lv' := [(5, .null), (0, .ref (ad 33)), (1, .ref (ad f)), (2, .int p1), (3, .int p2), (4, .int p3)]) dX5_says_9 (by decide) rfl ?_
    refine g_aloadN X 0 dX5_says_11 rfl ?_
    refine g_ifnonnullN X dX5_says_13 ?_
    refine g_iconst X (v := 0) dX5_says_16 (by decide) ?_
    obtain ⟨rfl, rfl⟩ := lf2 hf
    exact hret 17 _ dX5_says_17 rfl

theorem kV_X2_17 : wcV RX2 17 RX5 yX5_says cX5_says 11 (some .int) 4 := ⟨q_ml_X2_17, q_im_yX5_says, q_se_yX5_says, q_in_X5, q_co_yX5_says, by decide +kernel⟩

theorem kS_X2_23 : wcS RX2 23 yX1_takes cX1_takes 6 (some .boolean) 4 := ⟨q_ml_X2_23, q_st_yX1_takes, q_in_X1, q_co_yX1_takes, by decide +kernel⟩

def X2_takes_22 (nt : Nat) (z : Nat → Nat) (f : Nat) (s0 : Int32) (s1 : Int32) (s2 : Int32) (m0 : Mem) : Option (Int32 × Mem) :=
  bi (X1_takes f s2 s1 s0 m0) fun r22 m22 =>
  if r22 = 0 ∨ r22 = 1 then some (r22, m22) else none
def X2_takes (nt : Nat) (z : Nat → Nat) (f : Nat) (p1 : Int32) (p2 : Int32) (m0 : Mem) : Option (Int32 × Mem) :=
  bi (X5_says nt z f p1 (0 : Int32) p2 m0) fun r11 m11 =>
  if r11 = 0 then
    X2_takes_22 nt z f (0 : Int32) p2 p1 m11
  else
    X2_takes_22 nt z f (1 : Int32) p2 p1 m11
abbrev rmX2_takes : Room := { frames := 3, cells := 0, slots := 0, locals := 90 }
set_option maxRecDepth 100000 in
set_option maxHeartbeats 4000000 in
theorem w_X2_takes_22 {Γ : Ga} {b : Nat} {ad : Nat → Nat} {nt : Nat} {z : Nat → Nat} {f : Nat} {r9 : Int32} {m9 : Mem} (hf9 : isF f) (X : Cx Γ b cX2_takes 4 RX2 (some .boolean) rmX2_takes) (hret : ∀ (pc : Nat) (lv : List (Nat × Value)), decode cX2_takes pc = .ok (.ireturn, 1) → narrow .boolean (.int r9) = .int r9 → Go Γ b (sg ad nt z) 0 0 pc lv [.int r9] m9) (s0 : Int32) (s1 : Int32) (s2 : Int32) (m0 : Mem) (hf : X2_takes_22 nt z f s0 s1 s2 m0 = some (r9, m9)) : Go Γ b (sg ad nt z) 0 0 22 [] [.int s0, .int s1, .int s2, .ref (ad f)] m0 := by
  obtain ⟨r22, m22, h22, hf⟩ := bi_i hf
  refine g_eSI X [.ref (ad f), .int s2, .int s1, .int s0] kS_X2_23 (c_X1_takes hf9 h22) dX2_takes_22 rfl rfl ⟨(Nat.le_of_ble_eq_true rfl), (Nat.le_of_ble_eq_true rfl)⟩ ⟨rfl, rfl⟩ ⟨(Nat.zero_le _), (Nat.zero_le _)⟩ (Nat.le_of_ble_eq_true rfl) ?_
  obtain ⟨hz, hf⟩ := grd hf
  obtain ⟨rfl, rfl⟩ := lf2 hf
  exact hret 25 _ dX2_takes_25 (nw_z hz)
set_option maxRecDepth 100000 in
set_option maxHeartbeats 4000000 in
theorem c_X2_takes {l : Launch} {G : GG} {b : Nat} {ad : Nat → Nat} {nt : Nat} {z : Nat → Nat} {f : Nat} {p1 : Int32} {p2 : Int32} {m0 : Mem} {r9 : Int32} {m9 : Mem} (hf9 : isF f) (hf : X2_takes nt z f p1 p2 m0 = some (r9, m9)) : MtI l yX2_takes cX2_takes 4 (some .boolean) rmX2_takes G b (sg ad nt z) m0 [.ref (ad 50), .ref (ad f), .int p1, .int p2] (pEI r9 (sg ad nt z) m9) := by
  refine mtI_of (by decide) (Nat.le_of_ble_eq_true rfl) .boolean rfl (fun Γ hG X hnm hr => ?_)
  have hret : ∀ (pc : Nat) (lv : List (Nat × Value)), decode cX2_takes pc = .ok (.ireturn, 1) → narrow .boolean (.int r9) = .int r9 → Go Γ b (sg ad nt z) 0 0 pc lv [.int r9] m9 := fun pc lv d hn => hr pc lv _ _ _ d ⟨rfl, rfl, rfl⟩ hn
  show Go Γ b (sg ad nt z) 0 0 0 [(0, .ref (ad 50)), (1, .ref (ad f)), (2, .int p1), (3, .int p2)] [] m0
  refine g_aload_n X 1 dX2_takes_0 rfl rfl ?_
  refine g_iload_n X 2 dX2_takes_1 rfl rfl ?_
  refine g_iload_n X 3 dX2_takes_2 rfl rfl ?_
  refine g_aload_n X 0 dX2_takes_3 rfl rfl ?_
  refine g_getr X (x := ad 33) 50 1 0 dX2_takes_4 (sgN (by decide)) rfl (by decide) rfl iw_X2 (by decide) rfl q_fl_X2_9 rfl ?_
  refine g_aload_n X 1 dX2_takes_7 rfl rfl ?_
  refine g_iload_n X 2 dX2_takes_8 rfl rfl ?_
  refine g_iconst X (v := 0) dX2_takes_9 (by decide) ?_
  refine g_iload_n X 3 dX2_takes_10 rfl rfl ?_
  obtain ⟨r11, m11, h11, hf⟩ := bi_i hf
  refine g_eVI X 33 4 [.ref (ad f), .int p1, .int (0 : Int32), .int p2] kV_X2_17 (c_X5_says hf9 h11) dX2_takes_11 rfl rfl (sgN (by decide)) rfl (by decide) rfl rfl ⟨(Nat.le_of_ble_eq_true rfl), (Nat.le_of_ble_eq_true rfl)⟩ ⟨rfl, rfl⟩ ⟨(Nat.zero_le _), (Nat.zero_le _)⟩ (Nat.le_of_ble_eq_true rfl) ?_
  refine g_if_eq X (tgt := 21) dX2_takes_14 (by decide) (fun c14 => ?_) (fun c14 => ?_)
  · have hf := it c14 hf
    refine g_iconst X (v := 0) dX2_takes_21 (by decide) ?_
    refine g_pick [] (lv' := []) rfl ?_
    exact w_X2_takes_22 hf9 X hret (0 : Int32) p2 p1 m11 hf
  · have hf := ie c14 hf
    refine g_iconst X (v := 1) dX2_takes_17 (by decide) ?_
    refine g_goto X (tgt := 22) dX2_takes_18 (by decide) ?_
    refine g_pick [] (lv' := []) rfl ?_
    exact w_X2_takes_22 hf9 X hret (1 : Int32) p2 p1 m11 hf

theorem kS_X2_38 : wcS RX2 38 yX1_worth cX1_worth 4 (some .int) 3 := ⟨q_ml_X2_38, q_st_yX1_worth, q_in_X1, q_co_yX1_worth, by decide +kernel⟩

def X2_worth (nt : Nat) (z : Nat → Nat) (f : Nat) (p1 : Int32) (p2 : Int32) (m0 : Mem) : Option (Int32 × Mem) :=
  if inn p1 6 then
  if inn p1 6 then
  bi (X5_says nt z f p1 (1 : Int32) p2 m0) fun r20 m20 =>
  bi (X1_worth (m0.1 (f + 1) p1.toNatClampNeg) (m0.1 (f + 2) p1.toNatClampNeg) r20 m20) fun r23 m23 =>
  some (r23, m23)
  else none
  else none
abbrev rmX2_worth : Room := { frames := 3, cells := 0, slots := 0, locals := 90 }

set_option maxRecDepth 100000 in
set_option maxHeartbeats 4000000 in
theorem c_X2_worth {l : Launch} {G : GG} {b : Nat} {ad : Nat → Nat} {nt : Nat} {z : Nat → Nat} {f : Nat} {p1 : Int32} {p2 : Int32} {m0 : Mem} {r9 : Int32} {m9 : Mem} (hf9 : isF f) (hf : X2_worth nt z f p1 p2 m0 = some (r9, m9)) : MtI l yX2_worth cX2_worth 4 (some .int) rmX2_worth G b (sg ad nt z) m0 [.ref (ad 50), .ref (ad f), .int p1, .int p2] (pEI r9 (sg ad nt z) m9) := by
  refine mtI_of (by decide) (Nat.le_of_ble_eq_true rfl) .int rfl (fun Γ hG X hnm hr => ?_)
  have hret : ∀ (pc : Nat) (lv : List (Nat × Value)), decode cX2_worth pc = .ok (.ireturn, 1) → narrow .int (.int r9) = .int r9 → Go Γ b (sg ad nt z) 0 0 pc lv [.int r9] m9 := fun pc lv d hn => hr pc lv _ _ _ d ⟨rfl, rfl, rfl⟩ hn
  show Go Γ b (sg ad nt z) 0 0 0 [(0, .ref (ad 50)), (1, .ref (ad f)), (2, .int p1), (3, .int p2)] [] m0
  refine g_aload_n X 1 dX2_worth_0 rfl rfl ?_
  refine g_getr X (x := ad (f + 1)) f 0 3 dX2_worth_1 (F_lt0 hf9) (F_kd0 hf9) (by decide) rfl iw_X0 (by decide) rfl q_fl_X2_29 (F_r3 hf9) ?_
  refine g_iload_n X 2 dX2_worth_4 rfl rfl ?_
  obtain ⟨h5, hf⟩ := grd hf
  refine g_iald X (f + 1) (n := 6) dX2_worth_5 (F_lt1 hf9) (F_kd1 hf9) (F_ln1 hf9) h5 ?_
  refine g_aload_n X 1 dX2_worth_6 rfl rfl ?_
  refine g_getr X (x := ad (f + 2)) f 0 4 dX2_worth_7 (F_lt0 hf9) (F_kd0 hf9) (by decide) rfl iw_X0 (by decide) rfl q_fl_X2_35 (F_r4 hf9) ?_
  refine g_iload_n X 2 dX2_worth_10 rfl rfl ?_
  obtain ⟨h11, hf⟩ := grd hf
  refine g_iald X (f + 2) (n := 6) dX2_worth_11 (F_lt2 hf9) (F_kd2 hf9) (F_ln2 hf9) h11 ?_
  refine g_aload_n X 0 dX2_worth_12 rfl rfl ?_
  refine g_getr X (x := ad 33) 50 1 0 dX2_worth_13 (sgN (by decide)) rfl (by decide) rfl iw_X2 (by decide) rfl q_fl_X2_9 rfl ?_
  refine g_aload_n X 1 dX2_worth_16 rfl rfl ?_
  refine g_iload_n X 2 dX2_worth_17 rfl rfl ?_
  refine g_iconst X (v := 1) dX2_worth_18 (by decide) ?_
  refine g_iload_n X 3 dX2_worth_19 rfl rfl ?_
  obtain ⟨r20, m20, h20, hf⟩ := bi_i hf
  refine g_eVI X 33 4 [.ref (ad f), .int p1, .int (1 : Int32), .int p2] kV_X2_17 (c_X5_says hf9 h20) dX2_worth_20 rfl rfl (sgN (by decide)) rfl (by decide) rfl rfl ⟨(Nat.le_of_ble_eq_true rfl), (Nat.le_of_ble_eq_true rfl)⟩ ⟨rfl, rfl⟩ ⟨(Nat.zero_le _), (Nat.zero_le _)⟩ (Nat.le_of_ble_eq_true rfl) ?_
  obtain ⟨r23, m23, h23, hf⟩ := bi_i hf
  refine g_eSI X [.int (m0.1 (f + 1) p1.toNatClampNeg), .int (m0.1 (f + 2) p1.toNatClampNeg), .int r20] kS_X2_38 (c_X1_worth h23) dX2_worth_23 rfl rfl ⟨(Nat.le_of_ble_eq_true rfl), (Nat.le_of_ble_eq_true rfl)⟩ ⟨rfl, rfl⟩ ⟨(Nat.zero_le _), (Nat.zero_le _)⟩ (Nat.le_of_ble_eq_true rfl) ?_
  obtain ⟨rfl, rfl⟩ := lf2 hf
  exact hret 26 _ dX2_worth_26 rfl

theorem kS_X2_42 : wcS RX2 42 yX1_time cX1_time 4 (some .int) 3 := ⟨q_ml_X2_42, q_st_yX1_time, q_in_X1, q_co_yX1_time, by decide +kernel⟩

def X2_time (nt : Nat) (z : Nat → Nat) (f : Nat) (p1 : Int32) (p2 : Int32) (m0 : Mem) : Option (Int32 × Mem) :=
  if inn p1 6 then
  if inn p1 6 then
  bi (X5_says nt z f p1 (2 : Int32) p2 m0) fun r20 m20 =>
  bi (X1_time (m0.1 (f + 1) p1.toNatClampNeg) (m0.1 (f + 2) p1.toNatClampNeg) r20 m20) fun r23 m23 =>
  some (r23, m23)
  else none
  else none
abbrev rmX2_time : Room := { frames := 3, cells := 0, slots := 0, locals := 90 }

set_option maxRecDepth 100000 in
set_option maxHeartbeats 4000000 in
theorem c_X2_time {l : Launch} {G : GG} {b : Nat} {ad : Nat → Nat} {nt : Nat} {z : Nat → Nat} {f : Nat} {p1 : Int32} {p2 : Int32} {m0 : Mem} {r9 : Int32} {m9 : Mem} (hf9 : isF f) (hf : X2_time nt z f p1 p2 m0 = some (r9, m9)) : MtI l yX2_time cX2_time 4 (some .int) rmX2_time G b (sg ad nt z) m0 [.ref (ad 50), .ref (ad f), .int p1, .int p2] (pEI r9 (sg ad nt z) m9) := by
  refine mtI_of (by decide) (Nat.le_of_ble_eq_true rfl) .int rfl (fun Γ hG X hnm hr => ?_)
  have hret : ∀ (pc : Nat) (lv : List (Nat × Value)), decode cX2_time pc = .ok (.ireturn, 1) → narrow .int (.int r9) = .int r9 → Go Γ b (sg ad nt z) 0 0 pc lv [.int r9] m9 := fun pc lv d hn => hr pc lv _ _ _ d ⟨rfl, rfl, rfl⟩ hn
  show Go Γ b (sg ad nt z) 0 0 0 [(0, .ref (ad 50)), (1, .ref (ad f)), (2, .int p1), (3, .int p2)] [] m0
  refine g_aload_n X 1 dX2_time_0 rfl rfl ?_
  refine g_getr X (x := ad (f + 1)) f 0 3 dX2_time_1 (F_lt0 hf9) (F_kd0 hf9) (by decide) rfl iw_X0 (by decide) rfl q_fl_X2_29 (F_r3 hf9) ?_
  refine g_iload_n X 2 dX2_time_4 rfl rfl ?_
  obtain ⟨h5, hf⟩ := grd hf
  refine g_iald X (f + 1) (n := 6) dX2_time_5 (F_lt1 hf9) (F_kd1 hf9) (F_ln1 hf9) h5 ?_
  refine g_aload_n X 1 dX2_time_6 rfl rfl ?_
  refine g_getr X (x := ad (f + 2)) f 0 4 dX2_time_7 (F_lt0 hf9) (F_kd0 hf9) (by decide) rfl iw_X0 (by decide) rfl q_fl_X2_35 (F_r4 hf9) ?_
  refine g_iload_n X 2 dX2_time_10 rfl rfl ?_
  obtain ⟨h11, hf⟩ := grd hf
  refine g_iald X (f + 2) (n := 6) dX2_time_11 (F_lt2 hf9) (F_kd2 hf9) (F_ln2 hf9) h11 ?_
  refine g_aload_n X 0 dX2_time_12 rfl rfl ?_
  refine g_getr X (x := ad 33) 50 1 0 dX2_time_13 (sgN (by decide)) rfl (by decide) rfl iw_X2 (by decide) rfl q_fl_X2_9 rfl ?_
  refine g_aload_n X 1 dX2_time_16 rfl rfl ?_
  refine g_iload_n X 2 dX2_time_17 rfl rfl ?_
  refine g_iconst X (v := 2) dX2_time_18 (by decide) ?_
  refine g_iload_n X 3 dX2_time_19 rfl rfl ?_
  obtain ⟨r20, m20, h20, hf⟩ := bi_i hf
  refine g_eVI X 33 4 [.ref (ad f), .int p1, .int (2 : Int32), .int p2] kV_X2_17 (c_X5_says hf9 h20) dX2_time_20 rfl rfl (sgN (by decide)) rfl (by decide) rfl rfl ⟨(Nat.le_of_ble_eq_true rfl), (Nat.le_of_ble_eq_true rfl)⟩ ⟨rfl, rfl⟩ ⟨(Nat.zero_le _), (Nat.zero_le _)⟩ (Nat.le_of_ble_eq_true rfl) ?_
  obtain ⟨r23, m23, h23, hf⟩ := bi_i hf
  refine g_eSI X [.int (m0.1 (f + 1) p1.toNatClampNeg), .int (m0.1 (f + 2) p1.toNatClampNeg), .int r20] kS_X2_42 (c_X1_time h23) dX2_time_23 rfl rfl ⟨(Nat.le_of_ble_eq_true rfl), (Nat.le_of_ble_eq_true rfl)⟩ ⟨rfl, rfl⟩ ⟨(Nat.zero_le _), (Nat.zero_le _)⟩ (Nat.le_of_ble_eq_true rfl) ?_
  obtain ⟨rfl, rfl⟩ := lf2 hf
  exact hret 26 _ dX2_time_26 rfl

theorem kV_X2_45 : wcV RX2 45 RX0 yX0_isKnown cX0_isKnown 3 (some .boolean) 2 := ⟨q_ml_X2_45, q_im_yX0_isKnown, q_se_yX0_isKnown, q_in_X0, q_co_yX0_isKnown, by decide +kernel⟩

theorem kS_X2_49 : wcS RX2 49 yX1_tellsFree cX1_tellsFree 2 (some .boolean) 2 := ⟨q_ml_X2_49, q_st_yX1_tellsFree, q_in_X1, q_co_yX1_tellsFree, by decide +kernel⟩

theorem kV_X2_55 : wcV RX2 55 RX2 yX2_takes cX2_takes 4 (some .boolean) 3 := ⟨q_ml_X2_55, q_im_yX2_takes, q_se_yX2_takes, q_in_X2, q_co_yX2_takes, by decide +kernel⟩

theorem kV_X2_58 : wcV RX2 58 RX2 yX2_worth cX2_worth 4 (some .int) 3 := ⟨q_ml_X2_58, q_im_yX2_worth, q_se_yX2_worth, q_in_X2, q_co_yX2_worth, by decide +kernel⟩

def X2_payment_131 (nt : Nat) (z : Nat → Nat) (f : Nat) (k69 : Int32 → Int32 → Int32 → Int32 → Int32 → Int32 → Mem → Option (Int32 × Mem)) (v2 : Int32) (v3 : Int32) (v5 : Int32) (v6 : Int32) (v7 : Int32) (v8 : Int32) (m0 : Mem) : Option (Int32 × Mem) :=
  k69 v2 v3 v5 v6 v7 (v8 + (1 : Int32)) m0
def X2_payment_123 (nt : Nat) (z : Nat → Nat) (f : Nat) (k69 : Int32 → Int32 → Int32 → Int32 → Int32 → Int32 → Mem → Option (Int32 × Mem)) (v2 : Int32) (v3 : Int32) (v7 : Int32) (v8 : Int32) (v9 : Int32) (m0 : Mem) : Option (Int32 × Mem) :=
  X2_payment_131 nt z f k69 v2 v3 v8 v9 v7 v8 m0
def X2_payment_69 (nt : Nat) (z : Nat → Nat) (f : Nat) : Nat → Int32 → Int32 → Int32 → Int32 → Int32 → Int32 → Mem → Option (Int32 × Mem)
  | 0, _, _, _, _, _, _, _ => none
  | n + 1, v2, v3, v5, v6, v7, v8, m0 =>
    if (8 : Int32) ≤ v8 then
      some (v5, m0)
    else
      if ((v7 >>> (v8 &&& 31)) &&& (1 : Int32)) = 0 then
        X2_payment_131 nt z f (X2_payment_69 nt z f n) v2 v3 v5 v6 v7 v8 m0
      else
        bi (X2_takes nt z f v3 v8 m0) fun r91 m91 =>
        if r91 = 0 then
          X2_payment_131 nt z f (X2_payment_69 nt z f n) v2 v3 v5 v6 v7 v8 m91
        else
          bi (X2_worth nt z f v2 v8 m91) fun r105 m105 =>
          if v5 = (-1 : Int32) then
            X2_payment_123 nt z f (X2_payment_69 nt z f n) v2 v3 v7 v8 r105 m105
          else
            if v6 ≤ r105 then
              X2_payment_131 nt z f (X2_payment_69 nt z f n) v2 v3 v5 v6 v7 v8 m105
            else
              X2_payment_123 nt z f (X2_payment_69 nt z f n) v2 v3 v7 v8 r105 m105
def X2_payment (nt : Nat) (z : Nat → Nat) (f : Nat) (p1 : Int32) (p2 : Int32) (p3 : Int32) (m0 : Mem) : Option (Int32 × Mem) :=
  bi (X0_isKnown f p2 p3 m0) fun r4 m4 =>
  if r4 = 0 then
    some ((-1 : Int32), m4)
  else
    bi (X0_isKnown f p1 p3 m4) fun r14 m14 =>
    if r14 = 0 then
      if inn p2 6 then
      if inn p2 6 then
      bi (X1_tellsFree (m14.1 (f + 1) p2.toNatClampNeg) (m14.1 (f + 2) p2.toNatClampNeg) m14) fun r34 m34 =>
      if r34 = 0 then
        if inn p1 6 then
        if inn p2 6 then
        X2_payment_69 nt z f 10000 p1 p2 (-1 : Int32) (0 : Int32) ((m34.1 (f + 4) p1.toNatClampNeg) &&& ((m34.1 (f + 4) p2.toNatClampNeg) ^^^ (-1 : Int32))) (0 : Int32) m34
        else none
        else none
      else
        some ((8 : Int32), m34)
      else none
      else none
    else
      some ((-1 : Int32), m14)
abbrev rmX2_payment : Room := { frames := 4, cells := 0, slots := 0, locals := 113 }
set_option maxRecDepth 100000 in
set_option maxHeartbeats 4000000 in
theorem w_X2_payment_131 {Γ : Ga} {b : Nat} {ad : Nat → Nat} {nt : Nat} {z : Nat → Nat} {f : Nat} {k69 : Int32 → Int32 → Int32 → Int32 → Int32 → Int32 → Mem → Option (Int32 × Mem)} {r9 : Int32} {m9 : Mem} (hf9 : isF f) (X : Cx Γ b cX2_payment 10 RX2 (some .int) rmX2_payment) (hret : ∀ (pc : Nat) (lv : List (Nat × Value)), decode cX2_payment pc = .ok (.ireturn, 1) → narrow .int (.int r9) = .int r9 → Go Γ b (sg ad nt z) 0 0 pc lv [.int r9] m9) (hk69 : ∀ (v2 : Int32) (v3 : Int32) (v5 : Int32) (v6 : Int32) (v7 : Int32) (v8 : Int32) (m0 : Mem), k69 v2 v3 v5 v6 v7 v8 m0 = some (r9, m9) → Go Γ b (sg ad nt z) 0 0 69 [(0, .ref (ad 50)), (1, .ref (ad f)), (2, .int v2), (3, .int v3), (5, .int v5), (6, .int v6), (7, .int v7), (8, .int v8)] [] m0) (v2 : Int32) (v3 : Int32) (v5 : Int32) (v6 : Int32) (v7 : Int32) (v8 : Int32) (m0 : Mem) (hf : X2_payment_131 nt z f k69 v2 v3 v5 v6 v7 v8 m0 = some (r9, m9)) : Go Γ b (sg ad nt z) 0 0 131 [(0, .ref (ad 50)), (1, .ref (ad f)), (2, .int v2), (3, .int v3), (5, .int v5), (6, .int v6), (7, .int v7), (8, .int v8)] [] m0 := by
  refine g_iinc X 7 (v := v8 + (1 : Int32)) (lv' := [(8, .int (v8 + (1 : Int32))), (0, .ref (ad 50)), (1, .ref (ad f)), (2, .int v2), (3, .int v3), (5, .int v5), (6, .int v6), (7, .int v7)]) dX2_payment_131 rfl rfl (by decide) rfl ?_
  refine g_goto X (tgt := 69) dX2_payment_134 (by decide) ?_
  refine g_pick [1, 2, 3, 4, 5, 6, 7, 0] (lv' := [(0, .ref (ad 50)), (1, .ref (ad f)), (2, .int v2), (3, .int v3), (5, .int v5), (6, .int v6), (7, .int v7), (8, .int (v8 + (1 : Int32)))]) rfl ?_
  exact hk69 v2 v3 v5 v6 v7 (v8 + (1 : Int32)) m0 hf
set_option maxRecDepth 100000 in
set_option maxHeartbeats 4000000 in
theorem w_X2_payment_123 {Γ : Ga} {b : Nat} {ad : Nat → Nat} {nt : Nat} {z : Nat → Nat} {f : Nat} {k69 : Int32 → Int32 → Int32 → Int32 → Int32 → Int32 → Mem → Option (Int32 × Mem)} {r9 : Int32} {m9 : Mem} (hf9 : isF f) (X : Cx Γ b cX2_payment 10 RX2 (some .int) rmX2_payment) (hret : ∀ (pc : Nat) (lv : List (Nat × Value)), decode cX2_payment pc = .ok (.ireturn, 1) → narrow .int (.int r9) = .int r9 → Go Γ b (sg ad nt z) 0 0 pc lv [.int r9] m9) (hk69 : ∀ (v2 : Int32) (v3 : Int32) (v5 : Int32) (v6 : Int32) (v7 : Int32) (v8 : Int32) (m0 : Mem), k69 v2 v3 v5 v6 v7 v8 m0 = some (r9, m9) → Go Γ b (sg ad nt z) 0 0 69 [(0, .ref (ad 50)), (1, .ref (ad f)), (2, .int v2), (3, .int v3), (5, .int v5), (6, .int v6), (7, .int v7), (8, .int v8)] [] m0) (v2 : Int32) (v3 : Int32) (v7 : Int32) (v8 : Int32) (v9 : Int32) (m0 : Mem) (hf : X2_payment_123 nt z f k69 v2 v3 v7 v8 v9 m0 = some (r9, m9)) : Go Γ b (sg ad nt z) 0 0 123 [(0, .ref (ad 50)), (1, .ref (ad f)), (2, .int v2), (3, .int v3), (7, .int v7), (8, .int v8), (9, .int v9)] [] m0 := by
  refine g_iload X 5 dX2_payment_123 rfl ?_
  refine g_istore X (lv' := [(5, .int v8), (0, .ref (ad 50)), (1, .ref (ad f)), (2, .int v2), (3, .int v3), (7, .int v7), (8, .int v8), (9, .int v9)]) dX2_payment_125 (by decide) rfl ?_
  refine g_iload X 7 dX2_payment_127 rfl ?_
  refine g_istore X (lv' := [(6, .int v9), (5, .int v8), (0, .ref (ad 50)), (1, .ref (ad f)), (2, .int v2), (3, .int v3), (7, .int v7), (8, .int v8), (9, .int v9)]) dX2_payment_129 (by decide) rfl ?_
  refine g_pick [2, 3, 4, 5, 1, 0, 6, 7] (lv' := [(0, .ref (ad 50)), (1, .ref (ad f)), (2, .int v2), (3, .int v3), (5, .int v8), (6, .int v9), (7, .int v7), (8, .int v8)]) rfl ?_
  exact w_X2_payment_131 hf9 X hret hk69 v2 v3 v8 v9 v7 v8 m0 hf
set_option maxRecDepth 100000 in
set_option maxHeartbeats 4000000 in
theorem w_X2_payment_69 {Γ : Ga} {b : Nat} {ad : Nat → Nat} {nt : Nat} {z : Nat → Nat} {f : Nat} {r9 : Int32} {m9 : Mem} (hf9 : isF f) (X : Cx Γ b cX2_payment 10 RX2 (some .int) rmX2_payment) (hret : ∀ (pc : Nat) (lv : List (Nat × Value)), decode cX2_payment pc = .ok (.ireturn, 1) → narrow .int (.int r9) = .int r9 → Go Γ b (sg ad nt z) 0 0 pc lv [.int r9] m9) : ∀ (n : Nat) (v2 : Int32) (v3 : Int32) (v5 : Int32) (v6 : Int32) (v7 : Int32) (v8 : Int32) (m0 : Mem), X2_payment_69 nt z f n v2 v3 v5 v6 v7 v8 m0 = some (r9, m9) → Go Γ b (sg ad nt z) 0 0 69 [(0, .ref (ad 50)), (1, .ref (ad f)), (2, .int v2), (3, .int v3), (5, .int v5), (6, .int v6), (7, .int v7), (8, .int v8)] [] m0 := by
  intro n
  induction n with
  | zero =>
    intro v2 v3 v5 v6 v7 v8 m0 hf
    cases hf
  | succ n ih =>
    intro v2 v3 v5 v6 v7 v8 m0 hf
    refine g_iload X 7 dX2_payment_69 rfl ?_
    refine g_bipush X (v := 8) dX2_payment_71 (by decide) ?_
    refine g_icmp_ge X (tgt := 137) dX2_payment_73 (by decide) (fun c73 => ?_) (fun c73 => ?_)
    · have hf := it c73 hf
      refine g_iload X 4 dX2_payment_137 rfl ?_
      obtain ⟨rfl, rfl⟩ := lf2 hf
      exact hret 139 _ dX2_payment_139 rfl
    · have hf := ie c73 hf
      refine g_iload X 6 dX2_payment_76 rfl ?_
      refine g_iload X 7 dX2_payment_78 rfl ?_
      refine g_ishr X dX2_payment_80 ?_
      refine g_iconst X (v := 1) dX2_payment_81 (by decide) ?_
      refine g_iand X dX2_payment_82 ?_
      refine g_if_eq X (tgt := 131) dX2_payment_83 (by decide) (fun c83 => ?_) (fun c83 => ?_)
      · have hf := it c83 hf
        exact w_X2_payment_131 hf9 X hret ih v2 v3 v5 v6 v7 v8 m0 hf
      · have hf := ie c83 hf
        refine g_aload_n X 0 dX2_payment_86 rfl rfl ?_
        refine g_aload_n X 1 dX2_payment_87 rfl rfl ?_
        refine g_iload_n X 3 dX2_payment_88 rfl rfl ?_
        refine g_iload X 7 dX2_payment_89 rfl ?_
        obtain ⟨r91, m91, h91, hf⟩ := bi_i hf
        refine g_eVI X 50 1 [.ref (ad f), .int v3, .int v8] kV_X2_55 (c_X2_takes hf9 h91) dX2_payment_91 rfl rfl (sgN (by decide)) rfl (by decide) rfl rfl ⟨(Nat.le_of_ble_eq_true rfl), (Nat.le_of_ble_eq_true rfl)⟩ ⟨rfl, rfl⟩ ⟨(Nat.zero_le _), (Nat.zero_le _)⟩ (Nat.le_of_ble_eq_true rfl) ?_
        refine g_if_ne X (tgt := 100) dX2_payment_94 (by decide) (fun c94 => ?_) (fun c94 => ?_)
        · have hf := ie c94 hf
          refine g_aload_n X 0 dX2_payment_100 rfl rfl ?_
          refine g_aload_n X 1 dX2_payment_101 rfl rfl ?_
          refine g_iload_n X 2 dX2_payment_102 rfl rfl ?_
          refine g_iload X 7 dX2_payment_103 rfl ?_
          obtain ⟨r105, m105, h105, hf⟩ := bi_i hf
          refine g_eVI X 50 1 [.ref (ad f), .int v2, .int v8] kV_X2_58 (c_X2_worth hf9 h105) dX2_payment_105 rfl rfl (sgN (by decide)) rfl (by decide) rfl rfl ⟨(Nat.le_of_ble_eq_true rfl), (Nat.le_of_ble_eq_true rfl)⟩ ⟨rfl, rfl⟩ ⟨(Nat.zero_le _), (Nat.zero_le _)⟩ (Nat.le_of_ble_eq_true rfl) ?_
          refine g_istore X (lv' := [(9, .int r105), (0, .ref (ad 50)), (1, .ref (ad f)), (2, .int v2), (3, .int v3), (5, .int v5), (6, .int v6), (7, .int v7), (8, .int v8)]) dX2_payment_108 (by decide) rfl ?_
          refine g_iload X 5 dX2_payment_110 rfl ?_
          refine g_iconst X (v := -1) dX2_payment_112 (by decide) ?_
          refine g_icmp_eq X (tgt := 123) dX2_payment_113 (by decide) (fun c113 => ?_) (fun c113 => ?_)
          · have hf := it c113 hf
            refine g_pick [1, 2, 3, 4, 7, 8, 0] (lv' := [(0, .ref (ad 50)), (1, .ref (ad f)), (2, .int v2), (3, .int v3), (7, .int v7), (8, .int v8), (9, .int r105)]) rfl ?_
            exact w_X2_payment_123 hf9 X hret ih v2 v3 v7 v8 r105 m105 hf
          · have hf := ie c113 hf
            refine g_iload X 0 dX2_payment_116 rfl ?_
            refine g_iload X 6 dX2_payment_118 rfl ?_
            refine g_icmp_ge X (tgt := 131) dX2_payment_120 (by decide) (fun c120 => ?_) (fun c120 => ?_)
            · have hf := it c120 hf
              refine g_pick [1, 2, 3, 4, 5, 6, 7, 8] (lv' := [(0, .ref (ad 50)), (1, .ref (ad f)), (2, .int v2), (3, .int v3), (5, .int v5), (6, .int v6), (7, .int v7), (8, .int v8)]) rfl ?_
              exact w_X2_payment_131 hf9 X hret ih v2 v3 v5 v6 v7 v8 m105 hf
            · have hf := ie c120 hf
              refine g_pick [1, 2, 3, 4, 7, 8, 0] (lv' := [(0, .ref (ad 50)), (1, .ref (ad f)), (2, .int v2), (3, .int v3), (7, .int v7), (8, .int v8), (9, .int r105)]) rfl ?_
              exact w_X2_payment_123 hf9 X hret ih v2 v3 v7 v8 r105 m105 hf
        · have hf := it c94 hf
          refine g_goto X (tgt := 131) dX2_payment_97 (by decide) ?_
          exact w_X2_payment_131 hf9 X hret ih v2 v3 v5 v6 v7 v8 m91 hf
set_option maxRecDepth 100000 in
set_option maxHeartbeats 4000000 in
theorem c_X2_payment {l : Launch} {G : GG} {b : Nat} {ad : Nat → Nat} {nt : Nat} {z : Nat → Nat} {f : Nat} {p1 : Int32} {p2 : Int32} {p3 : Int32} {m0 : Mem} {r9 : Int32} {m9 : Mem} (hf9 : isF f) (hf : X2_payment nt z f p1 p2 p3 m0 = some (r9, m9)) : MtI l yX2_payment cX2_payment 10 (some .int) rmX2_payment G b (sg ad nt z) m0 [.ref (ad 50), .ref (ad f), .int p1, .int p2, .int p3] (pEI r9 (sg ad nt z) m9) := by
  refine mtI_of (by decide) (Nat.le_of_ble_eq_true rfl) .int rfl (fun Γ hG X hnm hr => ?_)
  have hret : ∀ (pc : Nat) (lv : List (Nat × Value)), decode cX2_payment pc = .ok (.ireturn, 1) → narrow .int (.int r9) = .int r9 → Go Γ b (sg ad nt z) 0 0 pc lv [.int r9] m9 := fun pc lv d hn => hr pc lv _ _ _ d ⟨rfl, rfl, rfl⟩ hn
  show Go Γ b (sg ad nt z) 0 0 0 [(0, .ref (ad 50)), (1, .ref (ad f)), (2, .int p1), (3, .int p2), (4, .int p3)] [] m0
  refine g_aload_n X 1 dX2_payment_0 rfl rfl ?_
  refine g_iload_n X 3 dX2_payment_1 rfl rfl ?_
  refine g_iload X 4 dX2_payment_2 rfl ?_
  obtain ⟨r4, m4, h4, hf⟩ := bi_i hf
  refine g_eVI X f 0 [.int p2, .int p3] kV_X2_45 (c_X0_isKnown hf9 h4) dX2_payment_4 rfl rfl (F_lt0 hf9) (F_kd0 hf9) (by decide) rfl rfl ⟨(Nat.le_of_ble_eq_true rfl), (Nat.le_of_ble_eq_true rfl)⟩ ⟨rfl, rfl⟩ ⟨(Nat.zero_le _), (Nat.zero_le _)⟩ (Nat.le_of_ble_eq_true rfl) ?_
  refine g_if_eq X (tgt := 20) dX2_payment_7 (by decide) (fun c7 => ?_) (fun c7 => ?_)
  · have hf := it c7 hf
    refine g_iconst X (v := -1) dX2_payment_20 (by decide) ?_
    obtain ⟨rfl, rfl⟩ := lf2 hf
    exact hret 21 _ dX2_payment_21 rfl
  · have hf := ie c7 hf
    refine g_aload_n X 1 dX2_payment_10 rfl rfl ?_
    refine g_iload_n X 2 dX2_payment_11 rfl rfl ?_
    refine g_iload X 4 dX2_payment_12 rfl ?_
    obtain ⟨r14, m14, h14, hf⟩ := bi_i hf
    refine g_eVI X f 0 [.int p1, .int p3] kV_X2_45 (c_X0_isKnown hf9 h14) dX2_payment_14 rfl rfl (F_lt0 hf9) (F_kd0 hf9) (by decide) rfl rfl ⟨(Nat.le_of_ble_eq_true rfl), (Nat.le_of_ble_eq_true rfl)⟩ ⟨rfl, rfl⟩ ⟨(Nat.zero_le _), (Nat.zero_le _)⟩ (Nat.le_of_ble_eq_true rfl) ?_
    refine g_if_eq X (tgt := 22) dX2_payment_17 (by decide) (fun c17 => ?_) (fun c17 => ?_)
    · have hf := it c17 hf
      refine g_aload_n X 1 dX2_payment_22 rfl rfl ?_
      refine g_getr X (x := ad (f + 1)) f 0 3 dX2_payment_23 (F_lt0 hf9) (F_kd0 hf9) (by decide) rfl iw_X0 (by decide) rfl q_fl_X2_29 (F_r3 hf9) ?_
      refine g_iload_n X 3 dX2_payment_26 rfl rfl ?_
      obtain ⟨h27, hf⟩ := grd hf
      refine g_iald X (f + 1) (n := 6) dX2_payment_27 (F_lt1 hf9) (F_kd1 hf9) (F_ln1 hf9) h27 ?_
      refine g_aload_n X 1 dX2_payment_28 rfl rfl ?_
      refine g_getr X (x := ad (f + 2)) f 0 4 dX2_payment_29 (F_lt0 hf9) (F_kd0 hf9) (by decide) rfl iw_X0 (by decide) rfl q_fl_X2_35 (F_r4 hf9) ?_
      refine g_iload_n X 3 dX2_payment_32 rfl rfl ?_
      obtain ⟨h33, hf⟩ := grd hf
      refine g_iald X (f + 2) (n := 6) dX2_payment_33 (F_lt2 hf9) (F_kd2 hf9) (F_ln2 hf9) h33 ?_
      obtain ⟨r34, m34, h34, hf⟩ := bi_i hf
      refine g_eSI X [.int (m14.1 (f + 1) p2.toNatClampNeg), .int (m14.1 (f + 2) p2.toNatClampNeg)] kS_X2_49 (c_X1_tellsFree h34) dX2_payment_34 rfl rfl ⟨(Nat.le_of_ble_eq_true rfl), (Nat.le_of_ble_eq_true rfl)⟩ ⟨rfl, rfl⟩ ⟨(Nat.zero_le _), (Nat.zero_le _)⟩ (Nat.le_of_ble_eq_true rfl) ?_
      refine g_if_eq X (tgt := 43) dX2_payment_37 (by decide) (fun c37 => ?_) (fun c37 => ?_)
      · have hf := it c37 hf
        refine g_iconst X (v := -1) dX2_payment_43 (by decide) ?_
        refine g_istore X (lv' := [(5, .int (-1 : Int32)), (0, .ref (ad 50)), (1, .ref (ad f)), (2, .int p1), (3, .int p2), (4, .int p3)]) dX2_payment_44 (by decide) rfl ?_
        refine g_iconst X (v := 0) dX2_payment_46 (by decide) ?_
        refine g_istore X (lv' := [(6, .int (0 : Int32)), (5, .int (-1 : Int32)), (0, .ref (ad 50)), (1, .ref (ad f)), (2, .int p1), (3, .int p2), (4, .int p3)]) dX2_payment_47 (by decide) rfl ?_
        refine g_aload_n X 3 dX2_payment_49 rfl rfl ?_
        refine g_getr X (x := ad (f + 4)) f 0 6 dX2_payment_50 (F_lt0 hf9) (F_kd0 hf9) (by decide) rfl iw_X0 (by decide) rfl q_fl_X2_52 (F_r6 hf9) ?_
        refine g_iload_n X 4 dX2_payment_53 rfl rfl ?_
        obtain ⟨h54, hf⟩ := grd hf
        refine g_iald X (f + 4) (n := 6) dX2_payment_54 (F_lt4 hf9) (F_kd4 hf9) (F_ln4 hf9) h54 ?_
        refine g_aload_n X 3 dX2_payment_55 rfl rfl ?_
        refine g_getr X (x := ad (f + 4)) f 0 6 dX2_payment_56 (F_lt0 hf9) (F_kd0 hf9) (by decide) rfl iw_X0 (by decide) rfl q_fl_X2_52 (F_r6 hf9) ?_
        refine g_iload_n X 5 dX2_payment_59 rfl rfl ?_
        obtain ⟨h60, hf⟩ := grd hf
        refine g_iald X (f + 4) (n := 6) dX2_payment_60 (F_lt4 hf9) (F_kd4 hf9) (F_ln4 hf9) h60 ?_
        refine g_iconst X (v := -1) dX2_payment_61 (by decide) ?_
        refine g_ixor X dX2_payment_62 ?_
        refine g_iand X dX2_payment_63 ?_
        refine g_istore X (lv' := [(7, .int ((m34.1 (f + 4) p1.toNatClampNeg) &&& ((m34.1 (f + 4) p2.toNatClampNeg) ^^^ (-1 : Int32)))), (6, .int (0 : Int32)), (5, .int (-1 : Int32)), (0, .ref (ad 50)), (1, .ref (ad f)), (2, .int p1), (3, .int p2), (4, .int p3)]) dX2_payment_64 (by decide) rfl ?_
        refine g_iconst X (v := 0) dX2_payment_66 (by decide) ?_
        refine g_istore X (lv' := [(8, .int (0 : Int32)), (7, .int ((m34.1 (f + 4) p1.toNatClampNeg) &&& ((m34.1 (f + 4) p2.toNatClampNeg) ^^^ (-1 : Int32)))), (6, .int (0 : Int32)), (5, .int (-1 : Int32)), (0, .ref (ad 50)), (1, .ref (ad f)), (2, .int p1), (3, .int p2), (4, .int p3)]) dX2_payment_67 (by decide) rfl ?_
        refine g_pick [4, 5, 6, 7, 3, 2, 1, 0] (lv' := [(0, .ref (ad 50)), (1, .ref (ad f)), (2, .int p1), (3, .int p2), (5, .int (-1 : Int32)), (6, .int (0 : Int32)), (7, .int ((m34.1 (f + 4) p1.toNatClampNeg) &&& ((m34.1 (f + 4) p2.toNatClampNeg) ^^^ (-1 : Int32)))), (8, .int (0 : Int32))]) rfl ?_
        exact w_X2_payment_69 hf9 X hret 10000 p1 p2 (-1 : Int32) (0 : Int32) ((m34.1 (f + 4) p1.toNatClampNeg) &&& ((m34.1 (f + 4) p2.toNatClampNeg) ^^^ (-1 : Int32))) (0 : Int32) m34 hf
      · have hf := ie c37 hf
        refine g_bipush X (v := 8) dX2_payment_40 (by decide) ?_
        obtain ⟨rfl, rfl⟩ := lf2 hf
        exact hret 42 _ dX2_payment_42 rfl
    · have hf := ie c17 hf
      refine g_iconst X (v := -1) dX2_payment_20 (by decide) ?_
      obtain ⟨rfl, rfl⟩ := lf2 hf
      exact hret 21 _ dX2_payment_21 rfl

theorem kV_X2_61 : wcV RX2 61 RX2 yX2_time cX2_time 4 (some .int) 3 := ⟨q_ml_X2_61, q_im_yX2_time, q_se_yX2_time, q_in_X2, q_co_yX2_time, by decide +kernel⟩

theorem kV_X2_63 : wcV RX2 63 RX0 yX0_spend cX0_spend 3 (none) 2 := ⟨q_ml_X2_63, q_im_yX0_spend, q_se_yX0_spend, q_in_X0, q_co_yX0_spend, by decide +kernel⟩

def X2_deal_31 (nt : Nat) (z : Nat → Nat) (f : Nat) (v2 : Int32) (v3 : Int32) (v4 : Int32) (v5 : Int32) (v6 : Int32) (s0 : Int32) (m0 : Mem) : Option (Mem) :=
  bi (X2_time nt z f v3 v4 m0) fun r38 m38 =>
  bv (X0_spend f v2 s0 m38) fun m47 =>
  bv (X0_spend f v3 r38 m47) fun m54 =>
  if inn v2 6 then
  if inn v2 6 then
  if v6 = 0 then
    some (pI m54 (f + 4) v2.toNatClampNeg ((m54.1 (f + 4) v2.toNatClampNeg) ||| ((1 : Int32) <<< (v4 &&& 31))))
  else
    if inn v3 6 then
    if inn v3 6 then
    some (pI (pI m54 (f + 4) v2.toNatClampNeg ((m54.1 (f + 4) v2.toNatClampNeg) ||| ((1 : Int32) <<< (v4 &&& 31)))) (f + 4) v3.toNatClampNeg (((pI m54 (f + 4) v2.toNatClampNeg ((m54.1 (f + 4) v2.toNatClampNeg) ||| ((1 : Int32) <<< (v4 &&& 31)))).1 (f + 4) v3.toNatClampNeg) ||| ((1 : Int32) <<< (v5 &&& 31))))
    else none
    else none
  else none
  else none
def X2_deal_12 (nt : Nat) (z : Nat → Nat) (f : Nat) (v2 : Int32) (v3 : Int32) (v4 : Int32) (v5 : Int32) (s0 : Int32) (m0 : Mem) : Option (Mem) :=
  if s0 = 0 then
    X2_deal_31 nt z f v2 v3 v4 v5 s0 (0 : Int32) m0
  else
    bi (X2_time nt z f v2 v5 m0) fun r24 m24 =>
    X2_deal_31 nt z f v2 v3 v4 v5 s0 r24 m24
def X2_deal (nt : Nat) (z : Nat → Nat) (f : Nat) (p1 : Int32) (p2 : Int32) (p3 : Int32) (p4 : Int32) (m0 : Mem) : Option (Mem) :=
  if p4 = (8 : Int32) then
    X2_deal_12 nt z f p1 p2 p3 p4 (0 : Int32) m0
  else
    X2_deal_12 nt z f p1 p2 p3 p4 (1 : Int32) m0
abbrev rmX2_deal : Room := { frames := 4, cells := 0, slots := 0, locals := 113 }
set_option maxRecDepth 100000 in
set_option maxHeartbeats 4000000 in
theorem w_X2_deal_31 {Γ : Ga} {b : Nat} {ad : Nat → Nat} {nt : Nat} {z : Nat → Nat} {f : Nat} {m9 : Mem} (hf9 : isF f) (X : Cx Γ b cX2_deal 9 RX2 (none) rmX2_deal) (hret : ∀ (pc : Nat) (lv : List (Nat × Value)), decode cX2_deal pc = .ok (.return_, 1) → Go Γ b (sg ad nt z) 0 0 pc lv [] m9) (v2 : Int32) (v3 : Int32) (v4 : Int32) (v5 : Int32) (v6 : Int32) (s0 : Int32) (m0 : Mem) (hf : X2_deal_31 nt z f v2 v3 v4 v5 v6 s0 m0 = some m9) : Go Γ b (sg ad nt z) 0 0 31 [(0, .ref (ad 50)), (1, .ref (ad f)), (2, .int v2), (3, .int v3), (4, .int v4), (5, .int v5), (6, .int v6)] [.int s0] m0 := by
  refine g_istore X (lv' := [(7, .int s0), (0, .ref (ad 50)), (1, .ref (ad f)), (2, .int v2), (3, .int v3), (4, .int v4), (5, .int v5), (6, .int v6)]) dX2_deal_31 (by decide) rfl ?_
  refine g_aload_n X 1 dX2_deal_33 rfl rfl ?_
  refine g_aload_n X 2 dX2_deal_34 rfl rfl ?_
  refine g_iload_n X 4 dX2_deal_35 rfl rfl ?_
  refine g_iload X 5 dX2_deal_36 rfl ?_
  obtain ⟨r38, m38, h38, hf⟩ := bi_i hf
  refine g_eVI X 50 1 [.ref (ad f), .int v3, .int v4] kV_X2_61 (c_X2_time hf9 h38) dX2_deal_38 rfl rfl (sgN (by decide)) rfl (by decide) rfl rfl ⟨(Nat.le_of_ble_eq_true rfl), (Nat.le_of_ble_eq_true rfl)⟩ ⟨rfl, rfl⟩ ⟨(Nat.zero_le _), (Nat.zero_le _)⟩ (Nat.le_of_ble_eq_true rfl) ?_
  refine g_istore X (lv' := [(8, .int r38), (7, .int s0), (0, .ref (ad 50)), (1, .ref (ad f)), (2, .int v2), (3, .int v3), (4, .int v4), (5, .int v5), (6, .int v6)]) dX2_deal_41 (by decide) rfl ?_
  refine g_aload_n X 3 dX2_deal_43 rfl rfl ?_
  refine g_iload_n X 4 dX2_deal_44 rfl rfl ?_
  refine g_iload X 1 dX2_deal_45 rfl ?_
  obtain ⟨m47, h47, hf⟩ := bv_i hf
  refine g_eVV X f 0 [.int v2, .int s0] kV_X2_63 (c_X0_spend hf9 h47) dX2_deal_47 rfl rfl (F_lt0 hf9) (F_kd0 hf9) (by decide) rfl rfl ⟨(Nat.le_of_ble_eq_true rfl), (Nat.le_of_ble_eq_true rfl)⟩ ⟨rfl, rfl⟩ ⟨(Nat.zero_le _), (Nat.zero_le _)⟩ (Nat.le_of_ble_eq_true rfl) ?_
  refine g_aload_n X 3 dX2_deal_50 rfl rfl ?_
  refine g_iload_n X 5 dX2_deal_51 rfl rfl ?_
  refine g_iload X 0 dX2_deal_52 rfl ?_
  obtain ⟨m54, h54, hf⟩ := bv_i hf
  refine g_eVV X f 0 [.int v3, .int r38] kV_X2_63 (c_X0_spend hf9 h54) dX2_deal_54 rfl rfl (F_lt0 hf9) (F_kd0 hf9) (by decide) rfl rfl ⟨(Nat.le_of_ble_eq_true rfl), (Nat.le_of_ble_eq_true rfl)⟩ ⟨rfl, rfl⟩ ⟨(Nat.zero_le _), (Nat.zero_le _)⟩ (Nat.le_of_ble_eq_true rfl) ?_
  refine g_aload_n X 3 dX2_deal_57 rfl rfl ?_
  refine g_getr X (x := ad (f + 4)) f 0 6 dX2_deal_58 (F_lt0 hf9) (F_kd0 hf9) (by decide) rfl iw_X0 (by decide) rfl q_fl_X2_52 (F_r6 hf9) ?_
  refine g_iload_n X 4 dX2_deal_61 rfl rfl ?_
  refine g_dup2 X dX2_deal_62 rfl rfl ?_
  obtain ⟨h63, hf⟩ := grd hf
  refine g_iald X (f + 4) (n := 6) dX2_deal_63 (F_lt4 hf9) (F_kd4 hf9) (F_ln4 hf9) h63 ?_
  refine g_iconst X (v := 1) dX2_deal_64 (by decide) ?_
  refine g_iload X 6 dX2_deal_65 rfl ?_
  refine g_ishl X dX2_deal_67 ?_
  refine g_ior X dX2_deal_68 ?_
  obtain ⟨h69, hf⟩ := grd hf
  refine g_iast X (f + 4) (n := 6) dX2_deal_69 (F_lt4 hf9) (F_kd4 hf9) (F_ln4 hf9) h69 ?_
  refine g_iload X 8 dX2_deal_70 rfl ?_
  refine g_if_eq X (tgt := 88) dX2_deal_72 (by decide) (fun c72 => ?_) (fun c72 => ?_)
  · have hf := it c72 hf
    obtain rfl := lf1 hf
    exact hret 88 _ dX2_deal_88
  · have hf := ie c72 hf
    refine g_aload_n X 3 dX2_deal_75 rfl rfl ?_
    refine g_getr X (x := ad (f + 4)) f 0 6 dX2_deal_76 (F_lt0 hf9) (F_kd0 hf9) (by decide) rfl iw_X0 (by decide) rfl q_fl_X2_52 (F_r6 hf9) ?_
    refine g_iload_n X 5 dX2_deal_79 rfl rfl ?_
    refine g_dup2 X dX2_deal_80 rfl rfl ?_
    obtain ⟨h81, hf⟩ := grd hf
    refine g_iald X (f + 4) (n := 6) dX2_deal_81 (F_lt4 hf9) (F_kd4 hf9) (F_ln4 hf9) h81 ?_
    refine g_iconst X (v := 1) dX2_deal_82 (by decide) ?_
    refine g_iload X 7 dX2_deal_83 rfl ?_
    refine g_ishl X dX2_deal_85 ?_
    refine g_ior X dX2_deal_86 ?_
    obtain ⟨h87, hf⟩ := grd hf
    refine g_iast X (f + 4) (n := 6) dX2_deal_87 (F_lt4 hf9) (F_kd4 hf9) (F_ln4 hf9) h87 ?_
    obtain rfl := lf1 hf
    exact hret 88 _ dX2_deal_88
set_option maxRecDepth 100000 in
set_option maxHeartbeats 4000000 in
theorem w_X2_deal_12 {Γ : Ga} {b : Nat} {ad : Nat → Nat} {nt : Nat} {z : Nat → Nat} {f : Nat} {m9 : Mem} (hf9 : isF f) (X : Cx Γ b cX2_deal 9 RX2 (none) rmX2_deal) (hret : ∀ (pc : Nat) (lv : List (Nat × Value)), decode cX2_deal pc = .ok (.return_, 1) → Go Γ b (sg ad nt z) 0 0 pc lv [] m9) (v2 : Int32) (v3 : Int32) (v4 : Int32) (v5 : Int32) (s0 : Int32) (m0 : Mem) (hf : X2_deal_12 nt z f v2 v3 v4 v5 s0 m0 = some m9) : Go Γ b (sg ad nt z) 0 0 12 [(0, .ref (ad 50)), (1, .ref (ad f)), (2, .int v2), (3, .int v3), (4, .int v4), (5, .int v5)] [.int s0] m0 := by
  refine g_istore X (lv' := [(6, .int s0), (0, .ref (ad 50)), (1, .ref (ad f)), (2, .int v2), (3, .int v3), (4, .int v4), (5, .int v5)]) dX2_deal_12 (by decide) rfl ?_
  refine g_iload X 0 dX2_deal_14 rfl ?_
  refine g_if_eq X (tgt := 30) dX2_deal_16 (by decide) (fun c16 => ?_) (fun c16 => ?_)
  · have hf := it c16 hf
    refine g_iconst X (v := 0) dX2_deal_30 (by decide) ?_
    refine g_pick [1, 2, 3, 4, 5, 6, 0] (lv' := [(0, .ref (ad 50)), (1, .ref (ad f)), (2, .int v2), (3, .int v3), (4, .int v4), (5, .int v5), (6, .int s0)]) rfl ?_
    exact w_X2_deal_31 hf9 X hret v2 v3 v4 v5 s0 (0 : Int32) m0 hf
  · have hf := ie c16 hf
    refine g_aload_n X 1 dX2_deal_19 rfl rfl ?_
    refine g_aload_n X 2 dX2_deal_20 rfl rfl ?_
    refine g_iload_n X 3 dX2_deal_21 rfl rfl ?_
    refine g_iload X 6 dX2_deal_22 rfl ?_
    obtain ⟨r24, m24, h24, hf⟩ := bi_i hf
    refine g_eVI X 50 1 [.ref (ad f), .int v2, .int v5] kV_X2_61 (c_X2_time hf9 h24) dX2_deal_24 rfl rfl (sgN (by decide)) rfl (by decide) rfl rfl ⟨(Nat.le_of_ble_eq_true rfl), (Nat.le_of_ble_eq_true rfl)⟩ ⟨rfl, rfl⟩ ⟨(Nat.zero_le _), (Nat.zero_le _)⟩ (Nat.le_of_ble_eq_true rfl) ?_
    refine g_goto X (tgt := 31) dX2_deal_27 (by decide) ?_
    refine g_pick [1, 2, 3, 4, 5, 6, 0] (lv' := [(0, .ref (ad 50)), (1, .ref (ad f)), (2, .int v2), (3, .int v3), (4, .int v4), (5, .int v5), (6, .int s0)]) rfl ?_
    exact w_X2_deal_31 hf9 X hret v2 v3 v4 v5 s0 r24 m24 hf
set_option maxRecDepth 100000 in
set_option maxHeartbeats 4000000 in
theorem c_X2_deal {l : Launch} {G : GG} {b : Nat} {ad : Nat → Nat} {nt : Nat} {z : Nat → Nat} {f : Nat} {p1 : Int32} {p2 : Int32} {p3 : Int32} {p4 : Int32} {m0 : Mem} {m9 : Mem} (hf9 : isF f) (hf : X2_deal nt z f p1 p2 p3 p4 m0 = some m9) : MtV l yX2_deal cX2_deal 9 (none) rmX2_deal G b (sg ad nt z) m0 [.ref (ad 50), .ref (ad f), .int p1, .int p2, .int p3, .int p4] (pEV (sg ad nt z) m9) := by
  refine mtV_of (by decide) (Nat.le_of_ble_eq_true rfl) rfl (fun Γ hG X hnm hr => ?_)
  have hret : ∀ (pc : Nat) (lv : List (Nat × Value)), decode cX2_deal pc = .ok (.return_, 1) → Go Γ b (sg ad nt z) 0 0 pc lv [] m9 := fun pc lv d => hr pc lv _ _ d ⟨rfl, rfl⟩
  show Go Γ b (sg ad nt z) 0 0 0 [(0, .ref (ad 50)), (1, .ref (ad f)), (2, .int p1), (3, .int p2), (4, .int p3), (5, .int p4)] [] m0
  refine g_iload X 5 dX2_deal_0 rfl ?_
  refine g_bipush X (v := 8) dX2_deal_2 (by decide) ?_
  refine g_icmp_eq X (tgt := 11) dX2_deal_4 (by decide) (fun c4 => ?_) (fun c4 => ?_)
  · have hf := it c4 hf
    refine g_iconst X (v := 0) dX2_deal_11 (by decide) ?_
    exact w_X2_deal_12 hf9 X hret p1 p2 p3 p4 (0 : Int32) m0 hf
  · have hf := ie c4 hf
    refine g_iconst X (v := 1) dX2_deal_7 (by decide) ?_
    refine g_goto X (tgt := 12) dX2_deal_8 (by decide) ?_
    exact w_X2_deal_12 hf9 X hret p1 p2 p3 p4 (1 : Int32) m0 hf

def X2_firstAsked_34 (f : Nat) : Nat → Int32 → Int32 → Mem → Option (Int32 × Mem)
  | 0, _, _, _ => none
  | n + 1, v4, v5, m0 =>
    if (8 : Int32) ≤ v5 then
      some ((-1 : Int32), m0)
    else
      if ((v4 >>> (v5 &&& 31)) &&& (1 : Int32)) = 0 then
        X2_firstAsked_34 f n v4 (v5 + (1 : Int32)) m0
      else
        some (v5, m0)
def X2_firstAsked (f : Nat) (p1 : Int32) (p2 : Int32) (m0 : Mem) : Option (Int32 × Mem) :=
  if inn p1 6 then
  if inn p2 6 then
  if inn p1 6 then
  if (((m0.1 (f + 5) p1.toNatClampNeg) &&& (m0.1 (f + 4) p2.toNatClampNeg)) &&& ((m0.1 (f + 4) p1.toNatClampNeg) ^^^ (-1 : Int32))) = 0 then
    some ((-1 : Int32), m0)
  else
    X2_firstAsked_34 f 10000 (((m0.1 (f + 5) p1.toNatClampNeg) &&& (m0.1 (f + 4) p2.toNatClampNeg)) &&& ((m0.1 (f + 4) p1.toNatClampNeg) ^^^ (-1 : Int32))) (0 : Int32) m0
  else none
  else none
  else none
abbrev rmX2_firstAsked : Room := { frames := 0, cells := 0, slots := 0, locals := 0 }
set_option maxRecDepth 100000 in
set_option maxHeartbeats 4000000 in
theorem w_X2_firstAsked_34 {Γ : Ga} {b : Nat} {ad : Nat → Nat} {nt : Nat} {z : Nat → Nat} {f : Nat} {r9 : Int32} {m9 : Mem} (hf9 : isF f) (X : Cx Γ b cX2_firstAsked 6 RX2 (some .int) rmX2_firstAsked) (hret : ∀ (pc : Nat) (lv : List (Nat × Value)), decode cX2_firstAsked pc = .ok (.ireturn, 1) → narrow .int (.int r9) = .int r9 → Go Γ b (sg ad nt z) 0 0 pc lv [.int r9] m9) : ∀ (n : Nat) (v4 : Int32) (v5 : Int32) (m0 : Mem), X2_firstAsked_34 f n v4 v5 m0 = some (r9, m9) → Go Γ b (sg ad nt z) 0 0 34 [(4, .int v4), (5, .int v5)] [] m0 := by
  intro n
  induction n with
  | zero =>
    intro v4 v5 m0 hf
    cases hf
  | succ n ih =>
    intro v4 v5 m0 hf
    refine g_iload X 1 dX2_firstAsked_34 rfl ?_
    refine g_bipush X (v := 8) dX2_firstAsked_36 (by decide) ?_
    refine g_icmp_ge X (tgt := 60) dX2_firstAsked_38 (by decide) (fun c38 => ?_) (fun c38 => ?_)
    · have hf := it c38 hf
      refine g_iconst X (v := -1) dX2_firstAsked_60 (by decide) ?_
      obtain ⟨rfl, rfl⟩ := lf2 hf
      exact hret 61 _ dX2_firstAsked_61 rfl
    · have hf := ie c38 hf
      refine g_iload X 0 dX2_firstAsked_41 rfl ?_
      refine g_iload X 1 dX2_firstAsked_43 rfl ?_
      refine g_ishr X dX2_firstAsked_45 ?_
      refine g_iconst X (v := 1) dX2_firstAsked_46 (by decide) ?_
      refine g_iand X dX2_firstAsked_47 ?_
      refine g_if_eq X (tgt := 54) dX2_firstAsked_48 (by decide) (fun c48 => ?_) (fun c48 => ?_)
      · have hf := it c48 hf
        refine g_iinc X 1 (v := v5 + (1 : Int32)) (lv' := [(5, .int (v5 + (1 : Int32))), (4, .int v4)]) dX2_firstAsked_54 rfl rfl (by decide) rfl ?_
        refine g_goto X (tgt := 34) dX2_firstAsked_57 (by decide) ?_
        refine g_pick [1, 0] (lv' := [(4, .int v4), (5, .int (v5 + (1 : Int32)))]) rfl ?_
        exact ih v4 (v5 + (1 : Int32)) m0 hf
      · have hf := ie c48 hf
        refine g_iload X 1 dX2_firstAsked_51 rfl ?_
        obtain ⟨rfl, rfl⟩ := lf2 hf
        exact hret 53 _ dX2_firstAsked_53 rfl
set_option maxRecDepth 100000 in
set_option maxHeartbeats 4000000 in
theorem c_X2_firstAsked {l : Launch} {G : GG} {b : Nat} {ad : Nat → Nat} {nt : Nat} {z : Nat → Nat} {f : Nat} {p1 : Int32} {p2 : Int32} {m0 : Mem} {r9 : Int32} {m9 : Mem} (hf9 : isF f) (hf : X2_firstAsked f p1 p2 m0 = some (r9, m9)) : MtI l yX2_firstAsked cX2_firstAsked 6 (some .int) rmX2_firstAsked G b (sg ad nt z) m0 [.ref (ad 50), .ref (ad f), .int p1, .int p2] (pEI r9 (sg ad nt z) m9) := by
  refine mtI_of (by decide) (Nat.le_of_ble_eq_true rfl) .int rfl (fun Γ hG X hnm hr => ?_)
  have hret : ∀ (pc : Nat) (lv : List (Nat × Value)), decode cX2_firstAsked pc = .ok (.ireturn, 1) → narrow .int (.int r9) = .int r9 → Go Γ b (sg ad nt z) 0 0 pc lv [.int r9] m9 := fun pc lv d hn => hr pc lv _ _ _ d ⟨rfl, rfl, rfl⟩ hn
  show Go Γ b (sg ad nt z) 0 0 0 [(0, .ref (ad 50)), (1, .ref (ad f)), (2, .int p1), (3, .int p2)] [] m0
  refine g_aload_n X 1 dX2_firstAsked_0 rfl rfl ?_
  refine g_getr X (x := ad (f + 5)) f 0 7 dX2_firstAsked_1 (F_lt0 hf9) (F_kd0 hf9) (by decide) rfl iw_X0 (by decide) rfl q_fl_X2_95 (F_r7 hf9) ?_
  refine g_iload_n X 2 dX2_firstAsked_4 rfl rfl ?_
  obtain ⟨h5, hf⟩ := grd hf
  refine g_iald X (f + 5) (n := 6) dX2_firstAsked_5 (F_lt5 hf9) (F_kd5 hf9) (F_ln5 hf9) h5 ?_
  refine g_aload_n X 1 dX2_firstAsked_6 rfl rfl ?_
  refine g_getr X (x := ad (f + 4)) f 0 6 dX2_firstAsked_7 (F_lt0 hf9) (F_kd0 hf9) (by decide) rfl iw_X0 (by decide) rfl q_fl_X2_52 (F_r6 hf9) ?_
  refine g_iload_n X 3 dX2_firstAsked_10 rfl rfl ?_
  obtain ⟨h11, hf⟩ := grd hf
  refine g_iald X (f + 4) (n := 6) dX2_firstAsked_11 (F_lt4 hf9) (F_kd4 hf9) (F_ln4 hf9) h11 ?_
  refine g_iand X dX2_firstAsked_12 ?_
  refine g_aload_n X 1 dX2_firstAsked_13 rfl rfl ?_
  refine g_getr X (x := ad (f + 4)) f 0 6 dX2_firstAsked_14 (F_lt0 hf9) (F_kd0 hf9) (by decide) rfl iw_X0 (by decide) rfl q_fl_X2_52 (F_r6 hf9) ?_
  refine g_iload_n X 2 dX2_firstAsked_17 rfl rfl ?_
  obtain ⟨h18, hf⟩ := grd hf
  refine g_iald X (f + 4) (n := 6) dX2_firstAsked_18 (F_lt4 hf9) (F_kd4 hf9) (F_ln4 hf9) h18 ?_
  refine g_iconst X (v := -1) dX2_firstAsked_19 (by decide) ?_
  refine g_ixor X dX2_firstAsked_20 ?_
  refine g_iand X dX2_firstAsked_21 ?_
  refine g_istore X (lv' := [(4, .int (((m0.1 (f + 5) p1.toNatClampNeg) &&& (m0.1 (f + 4) p2.toNatClampNeg)) &&& ((m0.1 (f + 4) p1.toNatClampNeg) ^^^ (-1 : Int32)))), (0, .ref (ad 50)), (1, .ref (ad f)), (2, .int p1), (3, .int p2)]) dX2_firstAsked_22 (by decide) rfl ?_
  refine g_iload X 0 dX2_firstAsked_24 rfl ?_
  refine g_if_ne X (tgt := 31) dX2_firstAsked_26 (by decide) (fun c26 => ?_) (fun c26 => ?_)
  · have hf := ie c26 hf
    refine g_iconst X (v := 0) dX2_firstAsked_31 (by decide) ?_
    refine g_istore X (lv' := [(5, .int (0 : Int32)), (4, .int (((m0.1 (f + 5) p1.toNatClampNeg) &&& (m0.1 (f + 4) p2.toNatClampNeg)) &&& ((m0.1 (f + 4) p1.toNatClampNeg) ^^^ (-1 : Int32)))), (0, .ref (ad 50)), (1, .ref (ad f)), (2, .int p1), (3, .int p2)]) dX2_firstAsked_32 (by decide) rfl ?_
    refine g_pick [1, 0] (lv' := [(4, .int (((m0.1 (f + 5) p1.toNatClampNeg) &&& (m0.1 (f + 4) p2.toNatClampNeg)) &&& ((m0.1 (f + 4) p1.toNatClampNeg) ^^^ (-1 : Int32)))), (5, .int (0 : Int32))]) rfl ?_
    exact w_X2_firstAsked_34 hf9 X hret 10000 (((m0.1 (f + 5) p1.toNatClampNeg) &&& (m0.1 (f + 4) p2.toNatClampNeg)) &&& ((m0.1 (f + 4) p1.toNatClampNeg) ^^^ (-1 : Int32))) (0 : Int32) m0 hf
  · have hf := it c26 hf
    refine g_iconst X (v := -1) dX2_firstAsked_29 (by decide) ?_
    obtain ⟨rfl, rfl⟩ := lf2 hf
    exact hret 30 _ dX2_firstAsked_30 rfl

def X5_namesRound (nt : Nat) (z : Nat → Nat) (p0 : Int32) (m0 : Mem) : Option (Int32 × Mem) :=
  if inn p0 6 then
  if p0.toNatClampNeg ≤ nt then
    wi (tid p0.toNatClampNeg) fun w5 =>
    if (m0.1 w5 3) = 0 then
      some ((0 : Int32), m0)
    else
      some ((1 : Int32), m0)
  else
    some ((1 : Int32), m0)
  else none
abbrev rmX5_namesRound : Room := { frames := 0, cells := 0, slots := 0, locals := 0 }

set_option maxRecDepth 100000 in
set_option maxHeartbeats 4000000 in
theorem c_X5_namesRound {l : Launch} {G : GG} {b : Nat} {ad : Nat → Nat} {nt : Nat} {z : Nat → Nat} {p0 : Int32} {m0 : Mem} {r9 : Int32} {m9 : Mem} (hf : X5_namesRound nt z p0 m0 = some (r9, m9)) : MtI l yX5_namesRound cX5_namesRound 3 (some .boolean) rmX5_namesRound G b (sg ad nt z) m0 [.ref (ad 33), .int p0] (pEI r9 (sg ad nt z) m9) := by
  refine mtI_of (by decide) (Nat.le_of_ble_eq_true rfl) .boolean rfl (fun Γ hG X hnm hr => ?_)
  have hret : ∀ (pc : Nat) (lv : List (Nat × Value)), decode cX5_namesRound pc = .ok (.ireturn, 1) → narrow .boolean (.int r9) = .int r9 → Go Γ b (sg ad nt z) 0 0 pc lv [.int r9] m9 := fun pc lv d hn => hr pc lv _ _ _ d ⟨rfl, rfl, rfl⟩ hn
  show Go Γ b (sg ad nt z) 0 0 0 [(0, .ref (ad 33)), (1, .int p0)] [] m0
  refine g_aload_n X 0 dX5_namesRound_0 rfl rfl ?_
  refine g_getr X (x := ad 34) 33 4 1 dX5_namesRound_1 (sgN (by decide)) rfl (by decide) rfl iw_X5 (by decide) rfl q_fl_X5_11 rfl ?_
  refine g_iload_n X 1 dX5_namesRound_4 rfl rfl ?_
  obtain ⟨h5, hf⟩ := grd hf
  by_cases c5 : p0.toNatClampNeg ≤ nt
  · have hf := it c5 hf
    obtain ⟨w5, ew5, hf⟩ := wi_i hf
    have fw5 : isT nt w5 := ⟨_, c5, ew5⟩
    refine g_aaldr13 X 34 (n := 6) (x := ad w5) dX5_namesRound_5 (sgN (by decide)) rfl rfl h5 (by rw [ew5]; exact T_at c5) ?_
    refine g_astore_n X (lv' := [(2, .ref (ad w5)), (0, .ref (ad 33)), (1, .int p0)]) dX5_namesRound_6 rfl (by decide) rfl ?_
    refine g_aload_n X 0 dX5_namesRound_7 rfl rfl ?_
    refine g_ifnull X dX5_namesRound_8 ?_
    refine g_aload_n X 0 dX5_namesRound_11 rfl rfl ?_
    refine g_getI X w5 6 3 dX5_namesRound_12 (T_lt0 fw5) (T_kd0 fw5) (by decide) rfl iw_X7 (by decide) rfl q_fl_X5_111 ?_
    refine g_if_eq X (tgt := 22) dX5_namesRound_15 (by decide) (fun c15 => ?_) (fun c15 => ?_)
    · have hf := it c15 hf
      refine g_iconst X (v := 0) dX5_namesRound_22 (by decide) ?_
      obtain ⟨rfl, rfl⟩ := lf2 hf
      exact hret 23 _ dX5_namesRound_23 rfl
    · have hf := ie c15 hf
      refine g_iconst X (v := 1) dX5_namesRound_18 (by decide) ?_
      refine g_goto X (tgt := 23) dX5_namesRound_19 (by decide) ?_
      obtain ⟨rfl, rfl⟩ := lf2 hf
      exact hret 23 _ dX5_namesRound_23 rfl
  · have hf := ie c5 hf
    refine g_aaldn13 X 34 (n := 6) dX5_namesRound_5 (sgN (by decide)) rfl rfl h5 (T_no c5) ?_
    refine g_astore_nN X (lv' := [(2, .null), (0, .ref (ad 33)), (1, .int p0)]) dX5_namesRound_6 rfl (by decide) rfl ?_
    refine g_aload_nN X 0 dX5_namesRound_7 rfl rfl ?_
    refine g_ifnullN X (tgt := 18) dX5_namesRound_8 (by decide) ?_
    refine g_iconst X (v := 1) dX5_namesRound_18 (by decide) ?_
    refine g_goto X (tgt := 23) dX5_namesRound_19 (by decide) ?_
    obtain ⟨rfl, rfl⟩ := lf2 hf
    exact hret 23 _ dX5_namesRound_23 rfl

theorem kV_X2_91 : wcV RX2 91 RX5 yX5_namesRound cX5_namesRound 3 (some .boolean) 1 := ⟨q_ml_X2_91, q_im_yX5_namesRound, q_se_yX5_namesRound, q_in_X5, q_co_yX5_namesRound, by decide +kernel⟩

def X2_restsForGood (nt : Nat) (z : Nat → Nat) (f : Nat) (m0 : Mem) : Option (Int32 × Mem) :=
  bi (X5_namesRound nt z (m0.1 f 2) m0) fun r8 m8 =>
  if r8 = 0 then
    some ((1 : Int32), m8)
  else
    some ((0 : Int32), m8)
abbrev rmX2_restsForGood : Room := { frames := 1, cells := 0, slots := 0, locals := 22 }

set_option maxRecDepth 100000 in
set_option maxHeartbeats 4000000 in
theorem c_X2_restsForGood {l : Launch} {G : GG} {b : Nat} {ad : Nat → Nat} {nt : Nat} {z : Nat → Nat} {f : Nat} {m0 : Mem} {r9 : Int32} {m9 : Mem} (hf9 : isF f) (hf : X2_restsForGood nt z f m0 = some (r9, m9)) : MtI l yX2_restsForGood cX2_restsForGood 2 (some .boolean) rmX2_restsForGood G b (sg ad nt z) m0 [.ref (ad 50), .ref (ad f)] (pEI r9 (sg ad nt z) m9) := by
  refine mtI_of (by decide) (Nat.le_of_ble_eq_true rfl) .boolean rfl (fun Γ hG X hnm hr => ?_)
  have hret : ∀ (pc : Nat) (lv : List (Nat × Value)), decode cX2_restsForGood pc = .ok (.ireturn, 1) → narrow .boolean (.int r9) = .int r9 → Go Γ b (sg ad nt z) 0 0 pc lv [.int r9] m9 := fun pc lv d hn => hr pc lv _ _ _ d ⟨rfl, rfl, rfl⟩ hn
  show Go Γ b (sg ad nt z) 0 0 0 [(0, .ref (ad 50)), (1, .ref (ad f))] [] m0
  refine g_aload_n X 0 dX2_restsForGood_0 rfl rfl ?_
  refine g_getr X (x := ad 33) 50 1 0 dX2_restsForGood_1 (sgN (by decide)) rfl (by decide) rfl iw_X2 (by decide) rfl q_fl_X2_9 rfl ?_
  refine g_aload_n X 1 dX2_restsForGood_4 rfl rfl ?_
  refine g_getI X f 0 2 dX2_restsForGood_5 (F_lt0 hf9) (F_kd0 hf9) (by decide) rfl iw_X0 (by decide) rfl q_fl_X2_88 ?_
  obtain ⟨r8, m8, h8, hf⟩ := bi_i hf
  refine g_eVI X 33 4 [.int (m0.1 f 2)] kV_X2_91 (c_X5_namesRound h8) dX2_restsForGood_8 rfl rfl (sgN (by decide)) rfl (by decide) rfl rfl ⟨(Nat.le_of_ble_eq_true rfl), (Nat.le_of_ble_eq_true rfl)⟩ ⟨rfl, rfl⟩ ⟨(Nat.zero_le _), (Nat.zero_le _)⟩ (Nat.le_of_ble_eq_true rfl) ?_
  refine g_if_ne X (tgt := 18) dX2_restsForGood_11 (by decide) (fun c11 => ?_) (fun c11 => ?_)
  · have hf := ie c11 hf
    refine g_iconst X (v := 0) dX2_restsForGood_18 (by decide) ?_
    obtain ⟨rfl, rfl⟩ := lf2 hf
    exact hret 19 _ dX2_restsForGood_19 rfl
  · have hf := it c11 hf
    refine g_iconst X (v := 1) dX2_restsForGood_14 (by decide) ?_
    refine g_goto X (tgt := 19) dX2_restsForGood_15 (by decide) ?_
    obtain ⟨rfl, rfl⟩ := lf2 hf
    exact hret 19 _ dX2_restsForGood_19 rfl

theorem kV_X2_84 : wcV RX2 84 RX2 yX2_restsForGood cX2_restsForGood 2 (some .boolean) 1 := ⟨q_ml_X2_84, q_im_yX2_restsForGood, q_se_yX2_restsForGood, q_in_X2, q_co_yX2_restsForGood, by decide +kernel⟩

theorem kV_X2_71 : wcV RX2 71 RX2 yX2_firstAsked cX2_firstAsked 6 (some .int) 3 := ⟨q_ml_X2_71, q_im_yX2_firstAsked, q_se_yX2_firstAsked, q_in_X2, q_co_yX2_firstAsked, by decide +kernel⟩

theorem kV_X2_74 : wcV RX2 74 RX2 yX2_payment cX2_payment 10 (some .int) 4 := ⟨q_ml_X2_74, q_im_yX2_payment, q_se_yX2_payment, q_in_X2, q_co_yX2_payment, by decide +kernel⟩

theorem kV_X2_77 : wcV RX2 77 RX2 yX2_deal cX2_deal 9 (none) 5 := ⟨q_ml_X2_77, q_im_yX2_deal, q_se_yX2_deal, q_in_X2, q_co_yX2_deal, by decide +kernel⟩

def X2_rounds_161 (nt : Nat) (z : Nat → Nat) (f : Nat) (k6 : Int32 → Int32 → Int32 → Int32 → Mem → Option (Int32 × Mem)) (v2 : Int32) (v3 : Int32) (v4 : Int32) (v5 : Int32) (m0 : Mem) : Option (Int32 × Mem) :=
  k6 v2 v3 v4 (v5 + (1 : Int32)) m0
def X2_rounds_121 (nt : Nat) (z : Nat → Nat) (f : Nat) (k6 : Int32 → Int32 → Int32 → Int32 → Mem → Option (Int32 × Mem)) (k19 : Int32 → Int32 → Int32 → Int32 → Int32 → Int32 → Mem → Option (Int32 × Mem)) (k31 : Int32 → Int32 → Int32 → Int32 → Int32 → Int32 → Int32 → Mem → Option (Int32 × Mem)) (v2 : Int32) (v3 : Int32) (v4 : Int32) (v5 : Int32) (v6 : Int32) (v7 : Int32) (v8 : Int32) (m0 : Mem) : Option (Int32 × Mem) :=
  k31 v2 v3 v4 v5 v6 v7 (v8 + (1 : Int32)) m0
def X2_rounds_94 (nt : Nat) (z : Nat → Nat) (f : Nat) (k6 : Int32 → Int32 → Int32 → Int32 → Mem → Option (Int32 × Mem)) (k19 : Int32 → Int32 → Int32 → Int32 → Int32 → Int32 → Mem → Option (Int32 × Mem)) (k31 : Int32 → Int32 → Int32 → Int32 → Int32 → Int32 → Int32 → Mem → Option (Int32 × Mem)) (v2 : Int32) (v3 : Int32) (v4 : Int32) (v5 : Int32) (v6 : Int32) (v7 : Int32) (v8 : Int32) (v9 : Int32) (s0 : Int32) (m0 : Mem) : Option (Int32 × Mem) :=
  if s0 = (-1 : Int32) then
    X2_rounds_121 nt z f k6 k19 k31 v2 v3 v4 v5 v6 v7 v8 m0
  else
    bv (X2_deal nt z f v7 v8 v9 s0 m0) fun m115 =>
    X2_rounds_121 nt z f k6 k19 k31 v2 v3 (v4 + (1 : Int32)) v5 v6 v7 v8 m115
def X2_rounds_31 (nt : Nat) (z : Nat → Nat) (f : Nat) (k6 : Int32 → Int32 → Int32 → Int32 → Mem → Option (Int32 × Mem)) (k19 : Int32 → Int32 → Int32 → Int32 → Int32 → Int32 → Mem → Option (Int32 × Mem)) : Nat → Int32 → Int32 → Int32 → Int32 → Int32 → Int32 → Int32 → Mem → Option (Int32 × Mem)
  | 0, _, _, _, _, _, _, _, _ => none
  | n + 1, v2, v3, v4, v5, v6, v7, v8, m0 =>
    if (m0.1 f 0) ≤ v8 then
      k19 v2 v3 v4 v5 v6 (v7 + (1 : Int32)) m0
    else
      if v7 = v8 then
        X2_rounds_121 nt z f k6 k19 (X2_rounds_31 nt z f k6 k19 n) v2 v3 v4 v5 v6 v7 v8 m0
      else
        if v7 = v3 then
          X2_rounds_121 nt z f k6 k19 (X2_rounds_31 nt z f k6 k19 n) v2 v3 v4 v5 v6 v7 v8 m0
        else
          if v8 = v3 then
            X2_rounds_121 nt z f k6 k19 (X2_rounds_31 nt z f k6 k19 n) v2 v3 v4 v5 v6 v7 v8 m0
          else
            bi (X2_firstAsked f v7 v8 m0) fun r68 m68 =>
            if r68 = (-1 : Int32) then
              X2_rounds_94 nt z f k6 k19 (X2_rounds_31 nt z f k6 k19 n) v2 v3 v4 v5 v6 v7 v8 r68 (-1 : Int32) m68
            else
              bi (X2_payment nt z f v7 v8 r68 m68) fun r91 m91 =>
              X2_rounds_94 nt z f k6 k19 (X2_rounds_31 nt z f k6 k19 n) v2 v3 v4 v5 v6 v7 v8 r68 r91 m91
def X2_rounds_19 (nt : Nat) (z : Nat → Nat) (f : Nat) (k6 : Int32 → Int32 → Int32 → Int32 → Mem → Option (Int32 × Mem)) : Nat → Int32 → Int32 → Int32 → Int32 → Int32 → Int32 → Mem → Option (Int32 × Mem)
  | 0, _, _, _, _, _, _, _ => none
  | n + 1, v2, v3, v4, v5, v6, v7, m0 =>
    if (m0.1 f 0) ≤ v7 then
      if v4 = v6 then
        bi (X2_restsForGood nt z f (pI m0 f 1 ((m0.1 f 1) + (1 : Int32)))) fun r152 m152 =>
        if r152 = 0 then
          X2_rounds_161 nt z f k6 v2 v3 v4 v5 m152
        else
          some (v4, m152)
      else
        X2_rounds_161 nt z f k6 v2 v3 v4 v5 (pI m0 f 1 ((m0.1 f 1) + (1 : Int32)))
    else
      X2_rounds_31 nt z f k6 (X2_rounds_19 nt z f k6 n) 10000 v2 v3 v4 v5 v6 v7 (0 : Int32) m0
def X2_rounds_6 (nt : Nat) (z : Nat → Nat) (f : Nat) : Nat → Int32 → Int32 → Int32 → Int32 → Mem → Option (Int32 × Mem)
  | 0, _, _, _, _, _ => none
  | n + 1, v2, v3, v4, v5, m0 =>
    if v2 ≤ v5 then
      some (v4, m0)
    else
      X2_rounds_19 nt z f (X2_rounds_6 nt z f n) 10000 v2 v3 v4 v5 v4 (0 : Int32) m0
def X2_rounds (nt : Nat) (z : Nat → Nat) (f : Nat) (p1 : Int32) (p2 : Int32) (m0 : Mem) : Option (Int32 × Mem) :=
  X2_rounds_6 nt z f 10000 p1 p2 (0 : Int32) (0 : Int32) m0
abbrev rmX2_rounds : Room := { frames := 5, cells := 0, slots := 0, locals := 142 }
set_option maxRecDepth 100000 in
set_option maxHeartbeats 4000000 in
theorem w_X2_rounds_161 {Γ : Ga} {b : Nat} {ad : Nat → Nat} {nt : Nat} {z : Nat → Nat} {f : Nat} {k6 : Int32 → Int32 → Int32 → Int32 → Mem → Option (Int32 × Mem)} {r9 : Int32} {m9 : Mem} (hf9 : isF f) (X : Cx Γ b cX2_rounds 11 RX2 (some .int) rmX2_rounds) (hret : ∀ (pc : Nat) (lv : List (Nat × Value)), decode cX2_rounds pc = .ok (.ireturn, 1) → narrow .int (.int r9) = .int r9 → Go Γ b (sg ad nt z) 0 0 pc lv [.int r9] m9) (hk6 : ∀ (v2 : Int32) (v3 : Int32) (v4 : Int32) (v5 : Int32) (m0 : Mem), k6 v2 v3 v4 v5 m0 = some (r9, m9) → Go Γ b (sg ad nt z) 0 0 6 [(0, .ref (ad 50)), (1, .ref (ad f)), (2, .int v2), (3, .int v3), (4, .int v4), (5, .int v5)] [] m0) (v2 : Int32) (v3 : Int32) (v4 : Int32) (v5 : Int32) (m0 : Mem) (hf : X2_rounds_161 nt z f k6 v2 v3 v4 v5 m0 = some (r9, m9)) : Go Γ b (sg ad nt z) 0 0 161 [(0, .ref (ad 50)), (1, .ref (ad f)), (2, .int v2), (3, .int v3), (4, .int v4), (5, .int v5)] [] m0 := by
  refine g_iinc X 5 (v := v5 + (1 : Int32)) (lv' := [(5, .int (v5 + (1 : Int32))), (0, .ref (ad 50)), (1, .ref (ad f)), (2, .int v2), (3, .int v3), (4, .int v4)]) dX2_rounds_161 rfl rfl (by decide) rfl ?_
  refine g_goto X (tgt := 6) dX2_rounds_164 (by decide) ?_
  refine g_pick [1, 2, 3, 4, 5, 0] (lv' := [(0, .ref (ad 50)), (1, .ref (ad f)), (2, .int v2), (3, .int v3), (4, .int v4), (5, .int (v5 + (1 : Int32)))]) rfl ?_
  exact hk6 v2 v3 v4 (v5 + (1 : Int32)) m0 hf
set_option maxRecDepth 100000 in
set_option maxHeartbeats 4000000 in
theorem w_X2_rounds_121 {Γ : Ga} {b : Nat} {ad : Nat → Nat} {nt : Nat} {z : Nat → Nat} {f : Nat} {k6 : Int32 → Int32 → Int32 → Int32 → Mem → Option (Int32 × Mem)} {k19 : Int32 → Int32 → Int32 → Int32 → Int32 → Int32 → Mem → Option (Int32 × Mem)} {k31 : Int32 → Int32 → Int32 → Int32 → Int32 → Int32 → Int32 → Mem → Option (Int32 × Mem)} {r9 : Int32} {m9 : Mem} (hf9 : isF f) (X : Cx Γ b cX2_rounds 11 RX2 (some .int) rmX2_rounds) (hret : ∀ (pc : Nat) (lv : List (Nat × Value)), decode cX2_rounds pc = .ok (.ireturn, 1) → narrow .int (.int r9) = .int r9 → Go Γ b (sg ad nt z) 0 0 pc lv [.int r9] m9) (hk6 : ∀ (v2 : Int32) (v3 : Int32) (v4 : Int32) (v5 : Int32) (m0 : Mem), k6 v2 v3 v4 v5 m0 = some (r9, m9) → Go Γ b (sg ad nt z) 0 0 6 [(0, .ref (ad 50)), (1, .ref (ad f)), (2, .int v2), (3, .int v3), (4, .int v4), (5, .int v5)] [] m0) (hk19 : ∀ (v2 : Int32) (v3 : Int32) (v4 : Int32) (v5 : Int32) (v6 : Int32) (v7 : Int32) (m0 : Mem), k19 v2 v3 v4 v5 v6 v7 m0 = some (r9, m9) → Go Γ b (sg ad nt z) 0 0 19 [(0, .ref (ad 50)), (1, .ref (ad f)), (2, .int v2), (3, .int v3), (4, .int v4), (5, .int v5), (6, .int v6), (7, .int v7)] [] m0) (hk31 : ∀ (v2 : Int32) (v3 : Int32) (v4 : Int32) (v5 : Int32) (v6 : Int32) (v7 : Int32) (v8 : Int32) (m0 : Mem), k31 v2 v3 v4 v5 v6 v7 v8 m0 = some (r9, m9) → Go Γ b (sg ad nt z) 0 0 31 [(0, .ref (ad 50)), (1, .ref (ad f)), (2, .int v2), (3, .int v3), (4, .int v4), (5, .int v5), (6, .int v6), (7, .int v7), (8, .int v8)] [] m0) (v2 : Int32) (v3 : Int32) (v4 : Int32) (v5 : Int32) (v6 : Int32) (v7 : Int32) (v8 : Int32) (m0 : Mem) (hf : X2_rounds_121 nt z f k6 k19 k31 v2 v3 v4 v5 v6 v7 v8 m0 = some (r9, m9)) : Go Γ b (sg ad nt z) 0 0 121 [(0, .ref (ad 50)), (1, .ref (ad f)), (2, .int v2), (3, .int v3), (4, .int v4), (5, .int v5), (6, .int v6), (7, .int v7), (8, .int v8)] [] m0 := by
  refine g_iinc X 8 (v := v8 + (1 : Int32)) (lv' := [(8, .int (v8 + (1 : Int32))), (0, .ref (ad 50)), (1, .ref (ad f)), (2, .int v2), (3, .int v3), (4, .int v4), (5, .int v5), (6, .int v6), (7, .int v7)]) dX2_rounds_121 rfl rfl (by decide) rfl ?_
  refine g_goto X (tgt := 31) dX2_rounds_124 (by decide) ?_
  refine g_pick [1, 2, 3, 4, 5, 6, 7, 8, 0] (lv' := [(0, .ref (ad 50)), (1, .ref (ad f)), (2, .int v2), (3, .int v3), (4, .int v4), (5, .int v5), (6, .int v6), (7, .int v7), (8, .int (v8 + (1 : Int32)))]) rfl ?_
  exact hk31 v2 v3 v4 v5 v6 v7 (v8 + (1 : Int32)) m0 hf
set_option maxRecDepth 100000 in
set_option maxHeartbeats 4000000 in
theorem w_X2_rounds_94 {Γ : Ga} {b : Nat} {ad : Nat → Nat} {nt : Nat} {z : Nat → Nat} {f : Nat} {k6 : Int32 → Int32 → Int32 → Int32 → Mem → Option (Int32 × Mem)} {k19 : Int32 → Int32 → Int32 → Int32 → Int32 → Int32 → Mem → Option (Int32 × Mem)} {k31 : Int32 → Int32 → Int32 → Int32 → Int32 → Int32 → Int32 → Mem → Option (Int32 × Mem)} {r9 : Int32} {m9 : Mem} (hf9 : isF f) (X : Cx Γ b cX2_rounds 11 RX2 (some .int) rmX2_rounds) (hret : ∀ (pc : Nat) (lv : List (Nat × Value)), decode cX2_rounds pc = .ok (.ireturn, 1) → narrow .int (.int r9) = .int r9 → Go Γ b (sg ad nt z) 0 0 pc lv [.int r9] m9) (hk6 : ∀ (v2 : Int32) (v3 : Int32) (v4 : Int32) (v5 : Int32) (m0 : Mem), k6 v2 v3 v4 v5 m0 = some (r9, m9) → Go Γ b (sg ad nt z) 0 0 6 [(0, .ref (ad 50)), (1, .ref (ad f)), (2, .int v2), (3, .int v3), (4, .int v4), (5, .int v5)] [] m0) (hk19 : ∀ (v2 : Int32) (v3 : Int32) (v4 : Int32) (v5 : Int32) (v6 : Int32) (v7 : Int32) (m0 : Mem), k19 v2 v3 v4 v5 v6 v7 m0 = some (r9, m9) → Go Γ b (sg ad nt z) 0 0 19 [(0, .ref (ad 50)), (1, .ref (ad f)), (2, .int v2), (3, .int v3), (4, .int v4), (5, .int v5), (6, .int v6), (7, .int v7)] [] m0) (hk31 : ∀ (v2 : Int32) (v3 : Int32) (v4 : Int32) (v5 : Int32) (v6 : Int32) (v7 : Int32) (v8 : Int32) (m0 : Mem), k31 v2 v3 v4 v5 v6 v7 v8 m0 = some (r9, m9) → Go Γ b (sg ad nt z) 0 0 31 [(0, .ref (ad 50)), (1, .ref (ad f)), (2, .int v2), (3, .int v3), (4, .int v4), (5, .int v5), (6, .int v6), (7, .int v7), (8, .int v8)] [] m0) (v2 : Int32) (v3 : Int32) (v4 : Int32) (v5 : Int32) (v6 : Int32) (v7 : Int32) (v8 : Int32) (v9 : Int32) (s0 : Int32) (m0 : Mem) (hf : X2_rounds_94 nt z f k6 k19 k31 v2 v3 v4 v5 v6 v7 v8 v9 s0 m0 = some (r9, m9)) : Go Γ b (sg ad nt z) 0 0 94 [(0, .ref (ad 50)), (1, .ref (ad f)), (2, .int v2), (3, .int v3), (4, .int v4), (5, .int v5), (6, .int v6), (7, .int v7), (8, .int v8), (9, .int v9)] [.int s0] m0 := by
  refine g_istore X (lv' := [(10, .int s0), (0, .ref (ad 50)), (1, .ref (ad f)), (2, .int v2), (3, .int v3), (4, .int v4), (5, .int v5), (6, .int v6), (7, .int v7), (8, .int v8), (9, .int v9)]) dX2_rounds_94 (by decide) rfl ?_
  refine g_iload X 0 dX2_rounds_96 rfl ?_
  refine g_iconst X (v := -1) dX2_rounds_98 (by decide) ?_
  refine g_icmp_ne X (tgt := 105) dX2_rounds_99 (by decide) (fun c99 => ?_) (fun c99 => ?_)
  · have hf := ie c99 hf
    refine g_aload_n X 1 dX2_rounds_105 rfl rfl ?_
    refine g_aload_n X 2 dX2_rounds_106 rfl rfl ?_
    refine g_iload X 8 dX2_rounds_107 rfl ?_
    refine g_iload X 9 dX2_rounds_109 rfl ?_
    refine g_iload X 10 dX2_rounds_111 rfl ?_
    refine g_iload X 0 dX2_rounds_113 rfl ?_
    obtain ⟨m115, h115, hf⟩ := bv_i hf
    refine g_eVV X 50 1 [.ref (ad f), .int v7, .int v8, .int v9, .int s0] kV_X2_77 (c_X2_deal hf9 h115) dX2_rounds_115 rfl rfl (sgN (by decide)) rfl (by decide) rfl rfl ⟨(Nat.le_of_ble_eq_true rfl), (Nat.le_of_ble_eq_true rfl)⟩ ⟨rfl, rfl⟩ ⟨(Nat.zero_le _), (Nat.zero_le _)⟩ (Nat.le_of_ble_eq_true rfl) ?_
    refine g_iinc X 5 (v := v4 + (1 : Int32)) (lv' := [(4, .int (v4 + (1 : Int32))), (10, .int s0), (0, .ref (ad 50)), (1, .ref (ad f)), (2, .int v2), (3, .int v3), (5, .int v5), (6, .int v6), (7, .int v7), (8, .int v8), (9, .int v9)]) dX2_rounds_118 rfl rfl (by decide) rfl ?_
    refine g_pick [2, 3, 4, 5, 0, 6, 7, 8, 9] (lv' := [(0, .ref (ad 50)), (1, .ref (ad f)), (2, .int v2), (3, .int v3), (4, .int (v4 + (1 : Int32))), (5, .int v5), (6, .int v6), (7, .int v7), (8, .int v8)]) rfl ?_
    exact w_X2_rounds_121 hf9 X hret hk6 hk19 hk31 v2 v3 (v4 + (1 : Int32)) v5 v6 v7 v8 m115 hf
  · have hf := it c99 hf
    refine g_goto X (tgt := 121) dX2_rounds_102 (by decide) ?_
    refine g_pick [1, 2, 3, 4, 5, 6, 7, 8, 9] (lv' := [(0, .ref (ad 50)), (1, .ref (ad f)), (2, .int v2), (3, .int v3), (4, .int v4), (5, .int v5), (6, .int v6), (7, .int v7), (8, .int v8)]) rfl ?_
    exact w_X2_rounds_121 hf9 X hret hk6 hk19 hk31 v2 v3 v4 v5 v6 v7 v8 m0 hf
set_option maxRecDepth 100000 in
set_option maxHeartbeats 4000000 in
theorem w_X2_rounds_31 {Γ : Ga} {b : Nat} {ad : Nat → Nat} {nt : Nat} {z : Nat → Nat} {f : Nat} {k6 : Int32 → Int32 → Int32 → Int32 → Mem → Option (Int32 × Mem)} {k19 : Int32 → Int32 → Int32 → Int32 → Int32 → Int32 → Mem → Option (Int32 × Mem)} {r9 : Int32} {m9 : Mem} (hf9 : isF f) (X : Cx Γ b cX2_rounds 11 RX2 (some .int) rmX2_rounds) (hret : ∀ (pc : Nat) (lv : List (Nat × Value)), decode cX2_rounds pc = .ok (.ireturn, 1) → narrow .int (.int r9) = .int r9 → Go Γ b (sg ad nt z) 0 0 pc lv [.int r9] m9) (hk6 : ∀ (v2 : Int32) (v3 : Int32) (v4 : Int32) (v5 : Int32) (m0 : Mem), k6 v2 v3 v4 v5 m0 = some (r9, m9) → Go Γ b (sg ad nt z) 0 0 6 [(0, .ref (ad 50)), (1, .ref (ad f)), (2, .int v2), (3, .int v3), (4, .int v4), (5, .int v5)] [] m0) (hk19 : ∀ (v2 : Int32) (v3 : Int32) (v4 : Int32) (v5 : Int32) (v6 : Int32) (v7 : Int32) (m0 : Mem), k19 v2 v3 v4 v5 v6 v7 m0 = some (r9, m9) → Go Γ b (sg ad nt z) 0 0 19 [(0, .ref (ad 50)), (1, .ref (ad f)), (2, .int v2), (3, .int v3), (4, .int v4), (5, .int v5), (6, .int v6), (7, .int v7)] [] m0) : ∀ (n : Nat) (v2 : Int32) (v3 : Int32) (v4 : Int32) (v5 : Int32) (v6 : Int32) (v7 : Int32) (v8 : Int32) (m0 : Mem), X2_rounds_31 nt z f k6 k19 n v2 v3 v4 v5 v6 v7 v8 m0 = some (r9, m9) → Go Γ b (sg ad nt z) 0 0 31 [(0, .ref (ad 50)), (1, .ref (ad f)), (2, .int v2), (3, .int v3), (4, .int v4), (5, .int v5), (6, .int v6), (7, .int v7), (8, .int v8)] [] m0 := by
  intro n
  induction n with
  | zero =>
    intro v2 v3 v4 v5 v6 v7 v8 m0 hf
    cases hf
  | succ n ih =>
    intro v2 v3 v4 v5 v6 v7 v8 m0 hf
    refine g_iload X 8 dX2_rounds_31 rfl ?_
    refine g_aload_n X 1 dX2_rounds_33 rfl rfl ?_
    refine g_getI X f 0 0 dX2_rounds_34 (F_lt0 hf9) (F_kd0 hf9) (by decide) rfl iw_X0 (by decide) rfl q_fl_X2_67 ?_
    refine g_icmp_ge X (tgt := 127) dX2_rounds_37 (by decide) (fun c37 => ?_) (fun c37 => ?_)
    · have hf := it c37 hf
      refine g_iinc X 7 (v := v7 + (1 : Int32)) (lv' := [(7, .int (v7 + (1 : Int32))), (0, .ref (ad 50)), (1, .ref (ad f)), (2, .int v2), (3, .int v3), (4, .int v4), (5, .int v5), (6, .int v6), (8, .int v8)]) dX2_rounds_127 rfl rfl (by decide) rfl ?_
      refine g_goto X (tgt := 19) dX2_rounds_130 (by decide) ?_
      refine g_pick [1, 2, 3, 4, 5, 6, 7, 0] (lv' := [(0, .ref (ad 50)), (1, .ref (ad f)), (2, .int v2), (3, .int v3), (4, .int v4), (5, .int v5), (6, .int v6), (7, .int (v7 + (1 : Int32)))]) rfl ?_
      exact hk19 v2 v3 v4 v5 v6 (v7 + (1 : Int32)) m0 hf
    · have hf := ie c37 hf
      refine g_iload X 7 dX2_rounds_40 rfl ?_
      refine g_iload X 8 dX2_rounds_42 rfl ?_
      refine g_icmp_eq X (tgt := 121) dX2_rounds_44 (by decide) (fun c44 => ?_) (fun c44 => ?_)
      · have hf := it c44 hf
        exact w_X2_rounds_121 hf9 X hret hk6 hk19 ih v2 v3 v4 v5 v6 v7 v8 m0 hf
      · have hf := ie c44 hf
        refine g_iload X 7 dX2_rounds_47 rfl ?_
        refine g_iload_n X 3 dX2_rounds_49 rfl rfl ?_
        refine g_icmp_eq X (tgt := 121) dX2_rounds_50 (by decide) (fun c50 => ?_) (fun c50 => ?_)
        · have hf := it c50 hf
          exact w_X2_rounds_121 hf9 X hret hk6 hk19 ih v2 v3 v4 v5 v6 v7 v8 m0 hf
        · have hf := ie c50 hf
          refine g_iload X 8 dX2_rounds_53 rfl ?_
          refine g_iload_n X 3 dX2_rounds_55 rfl rfl ?_
          refine g_icmp_ne X (tgt := 62) dX2_rounds_56 (by decide) (fun c56 => ?_) (fun c56 => ?_)
          · have hf := ie c56 hf
            refine g_aload_n X 0 dX2_rounds_62 rfl rfl ?_
            refine g_aload_n X 1 dX2_rounds_63 rfl rfl ?_
            refine g_iload X 7 dX2_rounds_64 rfl ?_
            refine g_iload X 8 dX2_rounds_66 rfl ?_
            obtain ⟨r68, m68, h68, hf⟩ := bi_i hf
            refine g_eVI X 50 1 [.ref (ad f), .int v7, .int v8] kV_X2_71 (c_X2_firstAsked hf9 h68) dX2_rounds_68 rfl rfl (sgN (by decide)) rfl (by decide) rfl rfl ⟨(Nat.le_of_ble_eq_true rfl), (Nat.le_of_ble_eq_true rfl)⟩ ⟨rfl, rfl⟩ ⟨(Nat.zero_le _), (Nat.zero_le _)⟩ (Nat.le_of_ble_eq_true rfl) ?_
            refine g_istore X (lv' := [(9, .int r68), (0, .ref (ad 50)), (1, .ref (ad f)), (2, .int v2), (3, .int v3), (4, .int v4), (5, .int v5), (6, .int v6), (7, .int v7), (8, .int v8)]) dX2_rounds_71 (by decide) rfl ?_
            refine g_iload X 0 dX2_rounds_73 rfl ?_
            refine g_iconst X (v := -1) dX2_rounds_75 (by decide) ?_
            refine g_icmp_ne X (tgt := 83) dX2_rounds_76 (by decide) (fun c76 => ?_) (fun c76 => ?_)
            · have hf := ie c76 hf
              refine g_aload_n X 1 dX2_rounds_83 rfl rfl ?_
              refine g_aload_n X 2 dX2_rounds_84 rfl rfl ?_
              refine g_iload X 8 dX2_rounds_85 rfl ?_
              refine g_iload X 9 dX2_rounds_87 rfl ?_
              refine g_iload X 0 dX2_rounds_89 rfl ?_
              obtain ⟨r91, m91, h91, hf⟩ := bi_i hf
              refine g_eVI X 50 1 [.ref (ad f), .int v7, .int v8, .int r68] kV_X2_74 (c_X2_payment hf9 h91) dX2_rounds_91 rfl rfl (sgN (by decide)) rfl (by decide) rfl rfl ⟨(Nat.le_of_ble_eq_true rfl), (Nat.le_of_ble_eq_true rfl)⟩ ⟨rfl, rfl⟩ ⟨(Nat.zero_le _), (Nat.zero_le _)⟩ (Nat.le_of_ble_eq_true rfl) ?_
              refine g_pick [1, 2, 3, 4, 5, 6, 7, 8, 9, 0] (lv' := [(0, .ref (ad 50)), (1, .ref (ad f)), (2, .int v2), (3, .int v3), (4, .int v4), (5, .int v5), (6, .int v6), (7, .int v7), (8, .int v8), (9, .int r68)]) rfl ?_
              exact w_X2_rounds_94 hf9 X hret hk6 hk19 ih v2 v3 v4 v5 v6 v7 v8 r68 r91 m91 hf
            · have hf := it c76 hf
              refine g_iconst X (v := -1) dX2_rounds_79 (by decide) ?_
              refine g_goto X (tgt := 94) dX2_rounds_80 (by decide) ?_
              refine g_pick [1, 2, 3, 4, 5, 6, 7, 8, 9, 0] (lv' := [(0, .ref (ad 50)), (1, .ref (ad f)), (2, .int v2), (3, .int v3), (4, .int v4), (5, .int v5), (6, .int v6), (7, .int v7), (8, .int v8), (9, .int r68)]) rfl ?_
              exact w_X2_rounds_94 hf9 X hret hk6 hk19 ih v2 v3 v4 v5 v6 v7 v8 r68 (-1 : Int32) m68 hf
          · have hf := it c56 hf
            refine g_goto X (tgt := 121) dX2_rounds_59 (by decide) ?_
            exact w_X2_rounds_121 hf9 X hret hk6 hk19 ih v2 v3 v4 v5 v6 v7 v8 m0 hf
set_option maxRecDepth 100000 in
set_option maxHeartbeats 4000000 in
theorem w_X2_rounds_19 {Γ : Ga} {b : Nat} {ad : Nat → Nat} {nt : Nat} {z : Nat → Nat} {f : Nat} {k6 : Int32 → Int32 → Int32 → Int32 → Mem → Option (Int32 × Mem)} {r9 : Int32} {m9 : Mem} (hf9 : isF f) (X : Cx Γ b cX2_rounds 11 RX2 (some .int) rmX2_rounds) (hret : ∀ (pc : Nat) (lv : List (Nat × Value)), decode cX2_rounds pc = .ok (.ireturn, 1) → narrow .int (.int r9) = .int r9 → Go Γ b (sg ad nt z) 0 0 pc lv [.int r9] m9) (hk6 : ∀ (v2 : Int32) (v3 : Int32) (v4 : Int32) (v5 : Int32) (m0 : Mem), k6 v2 v3 v4 v5 m0 = some (r9, m9) → Go Γ b (sg ad nt z) 0 0 6 [(0, .ref (ad 50)), (1, .ref (ad f)), (2, .int v2), (3, .int v3), (4, .int v4), (5, .int v5)] [] m0) : ∀ (n : Nat) (v2 : Int32) (v3 : Int32) (v4 : Int32) (v5 : Int32) (v6 : Int32) (v7 : Int32) (m0 : Mem), X2_rounds_19 nt z f k6 n v2 v3 v4 v5 v6 v7 m0 = some (r9, m9) → Go Γ b (sg ad nt z) 0 0 19 [(0, .ref (ad 50)), (1, .ref (ad f)), (2, .int v2), (3, .int v3), (4, .int v4), (5, .int v5), (6, .int v6), (7, .int v7)] [] m0 := by
  intro n
  induction n with
  | zero =>
    intro v2 v3 v4 v5 v6 v7 m0 hf
    cases hf
  | succ n ih =>
    intro v2 v3 v4 v5 v6 v7 m0 hf
    refine g_iload X 7 dX2_rounds_19 rfl ?_
    refine g_aload_n X 1 dX2_rounds_21 rfl rfl ?_
    refine g_getI X f 0 0 dX2_rounds_22 (F_lt0 hf9) (F_kd0 hf9) (by decide) rfl iw_X0 (by decide) rfl q_fl_X2_67 ?_
    refine g_icmp_ge X (tgt := 133) dX2_rounds_25 (by decide) (fun c25 => ?_) (fun c25 => ?_)
    · have hf := it c25 hf
      refine g_aload_n X 1 dX2_rounds_133 rfl rfl ?_
      refine g_dup X dX2_rounds_134 rfl ?_
      refine g_getI X f 0 1 dX2_rounds_135 (F_lt0 hf9) (F_kd0 hf9) (by decide) rfl iw_X0 (by decide) rfl q_fl_X2_81 ?_
      refine g_iconst X (v := 1) dX2_rounds_138 (by decide) ?_
      refine g_iadd X dX2_rounds_139 ?_
      refine g_putI X (tyf := tyX0) f 0 1 dX2_rounds_140 (F_lt0 hf9) (F_kd0 hf9) (by decide) rfl iw_X0 (by decide) rfl q_fl_X2_81 tyX0_ok nmX0 rfl rfl rfl ?_
      refine g_iload X 4 dX2_rounds_143 rfl ?_
      refine g_iload X 6 dX2_rounds_145 rfl ?_
      refine g_icmp_ne X (tgt := 161) dX2_rounds_147 (by decide) (fun c147 => ?_) (fun c147 => ?_)
      · have hf := ie c147 hf
        refine g_pick [0, 1, 2, 3, 4, 5] (lv' := [(0, .ref (ad 50)), (1, .ref (ad f)), (2, .int v2), (3, .int v3), (4, .int v4), (5, .int v5)]) rfl ?_
        exact w_X2_rounds_161 hf9 X hret hk6 v2 v3 v4 v5 (pI m0 f 1 ((m0.1 f 1) + (1 : Int32))) hf
      · have hf := it c147 hf
        refine g_aload_n X 0 dX2_rounds_150 rfl rfl ?_
        refine g_aload_n X 1 dX2_rounds_151 rfl rfl ?_
        obtain ⟨r152, m152, h152, hf⟩ := bi_i hf
        refine g_eVI X 50 1 [.ref (ad f)] kV_X2_84 (c_X2_restsForGood hf9 h152) dX2_rounds_152 rfl rfl (sgN (by decide)) rfl (by decide) rfl rfl ⟨(Nat.le_of_ble_eq_true rfl), (Nat.le_of_ble_eq_true rfl)⟩ ⟨rfl, rfl⟩ ⟨(Nat.zero_le _), (Nat.zero_le _)⟩ (Nat.le_of_ble_eq_true rfl) ?_
        refine g_if_eq X (tgt := 161) dX2_rounds_155 (by decide) (fun c155 => ?_) (fun c155 => ?_)
        · have hf := it c155 hf
          refine g_pick [0, 1, 2, 3, 4, 5] (lv' := [(0, .ref (ad 50)), (1, .ref (ad f)), (2, .int v2), (3, .int v3), (4, .int v4), (5, .int v5)]) rfl ?_
          exact w_X2_rounds_161 hf9 X hret hk6 v2 v3 v4 v5 m152 hf
        · have hf := ie c155 hf
          refine g_iload X 4 dX2_rounds_158 rfl ?_
          obtain ⟨rfl, rfl⟩ := lf2 hf
          exact hret 160 _ dX2_rounds_160 rfl
    · have hf := ie c25 hf
      refine g_iconst X (v := 0) dX2_rounds_28 (by decide) ?_
      refine g_istore X (lv' := [(8, .int (0 : Int32)), (0, .ref (ad 50)), (1, .ref (ad f)), (2, .int v2), (3, .int v3), (4, .int v4), (5, .int v5), (6, .int v6), (7, .int v7)]) dX2_rounds_29 (by decide) rfl ?_
      refine g_pick [1, 2, 3, 4, 5, 6, 7, 8, 0] (lv' := [(0, .ref (ad 50)), (1, .ref (ad f)), (2, .int v2), (3, .int v3), (4, .int v4), (5, .int v5), (6, .int v6), (7, .int v7), (8, .int (0 : Int32))]) rfl ?_
      exact w_X2_rounds_31 hf9 X hret hk6 ih 10000 v2 v3 v4 v5 v6 v7 (0 : Int32) m0 hf
set_option maxRecDepth 100000 in
set_option maxHeartbeats 4000000 in
theorem w_X2_rounds_6 {Γ : Ga} {b : Nat} {ad : Nat → Nat} {nt : Nat} {z : Nat → Nat} {f : Nat} {r9 : Int32} {m9 : Mem} (hf9 : isF f) (X : Cx Γ b cX2_rounds 11 RX2 (some .int) rmX2_rounds) (hret : ∀ (pc : Nat) (lv : List (Nat × Value)), decode cX2_rounds pc = .ok (.ireturn, 1) → narrow .int (.int r9) = .int r9 → Go Γ b (sg ad nt z) 0 0 pc lv [.int r9] m9) : ∀ (n : Nat) (v2 : Int32) (v3 : Int32) (v4 : Int32) (v5 : Int32) (m0 : Mem), X2_rounds_6 nt z f n v2 v3 v4 v5 m0 = some (r9, m9) → Go Γ b (sg ad nt z) 0 0 6 [(0, .ref (ad 50)), (1, .ref (ad f)), (2, .int v2), (3, .int v3), (4, .int v4), (5, .int v5)] [] m0 := by
  intro n
  induction n with
  | zero =>
    intro v2 v3 v4 v5 m0 hf
    cases hf
  | succ n ih =>
    intro v2 v3 v4 v5 m0 hf
    refine g_iload X 5 dX2_rounds_6 rfl ?_
    refine g_iload_n X 2 dX2_rounds_8 rfl rfl ?_
    refine g_icmp_ge X (tgt := 167) dX2_rounds_9 (by decide) (fun c9 => ?_) (fun c9 => ?_)
    · have hf := it c9 hf
      refine g_iload X 4 dX2_rounds_167 rfl ?_
      obtain ⟨rfl, rfl⟩ := lf2 hf
      exact hret 169 _ dX2_rounds_169 rfl
    · have hf := ie c9 hf
      refine g_iload X 4 dX2_rounds_12 rfl ?_
      refine g_istore X (lv' := [(6, .int v4), (0, .ref (ad 50)), (1, .ref (ad f)), (2, .int v2), (3, .int v3), (4, .int v4), (5, .int v5)]) dX2_rounds_14 (by decide) rfl ?_
      refine g_iconst X (v := 0) dX2_rounds_16 (by decide) ?_
      refine g_istore X (lv' := [(7, .int (0 : Int32)), (6, .int v4), (0, .ref (ad 50)), (1, .ref (ad f)), (2, .int v2), (3, .int v3), (4, .int v4), (5, .int v5)]) dX2_rounds_17 (by decide) rfl ?_
      refine g_pick [2, 3, 4, 5, 6, 7, 1, 0] (lv' := [(0, .ref (ad 50)), (1, .ref (ad f)), (2, .int v2), (3, .int v3), (4, .int v4), (5, .int v5), (6, .int v4), (7, .int (0 : Int32))]) rfl ?_
      exact w_X2_rounds_19 hf9 X hret ih 10000 v2 v3 v4 v5 v4 (0 : Int32) m0 hf
set_option maxRecDepth 100000 in
set_option maxHeartbeats 4000000 in
theorem c_X2_rounds {l : Launch} {G : GG} {b : Nat} {ad : Nat → Nat} {nt : Nat} {z : Nat → Nat} {f : Nat} {p1 : Int32} {p2 : Int32} {m0 : Mem} {r9 : Int32} {m9 : Mem} (hf9 : isF f) (hf : X2_rounds nt z f p1 p2 m0 = some (r9, m9)) : MtI l yX2_rounds cX2_rounds 11 (some .int) rmX2_rounds G b (sg ad nt z) m0 [.ref (ad 50), .ref (ad f), .int p1, .int p2] (pEI r9 (sg ad nt z) m9) := by
  refine mtI_of (by decide) (Nat.le_of_ble_eq_true rfl) .int rfl (fun Γ hG X hnm hr => ?_)
  have hret : ∀ (pc : Nat) (lv : List (Nat × Value)), decode cX2_rounds pc = .ok (.ireturn, 1) → narrow .int (.int r9) = .int r9 → Go Γ b (sg ad nt z) 0 0 pc lv [.int r9] m9 := fun pc lv d hn => hr pc lv _ _ _ d ⟨rfl, rfl, rfl⟩ hn
  show Go Γ b (sg ad nt z) 0 0 0 [(0, .ref (ad 50)), (1, .ref (ad f)), (2, .int p1), (3, .int p2)] [] m0
  refine g_iconst X (v := 0) dX2_rounds_0 (by decide) ?_
  refine g_istore X (lv' := [(4, .int (0 : Int32)), (0, .ref (ad 50)), (1, .ref (ad f)), (2, .int p1), (3, .int p2)]) dX2_rounds_1 (by decide) rfl ?_
  refine g_iconst X (v := 0) dX2_rounds_3 (by decide) ?_
  refine g_istore X (lv' := [(5, .int (0 : Int32)), (4, .int (0 : Int32)), (0, .ref (ad 50)), (1, .ref (ad f)), (2, .int p1), (3, .int p2)]) dX2_rounds_4 (by decide) rfl ?_
  refine g_pick [2, 3, 4, 5, 1, 0] (lv' := [(0, .ref (ad 50)), (1, .ref (ad f)), (2, .int p1), (3, .int p2), (4, .int (0 : Int32)), (5, .int (0 : Int32))]) rfl ?_
  exact w_X2_rounds_6 hf9 X hret 10000 p1 p2 (0 : Int32) (0 : Int32) m0 hf

def X3_add (p0 : Int32) (m0 : Mem) : Option (Int32 × Mem) :=
  if (m0.1 30 1) < (160 : Int32) then
    if inn (m0.1 30 1) 160 then
    some ((pI (pI m0 31 (m0.1 30 1).toNatClampNeg p0) 30 1 (((pI m0 31 (m0.1 30 1).toNatClampNeg p0).1 30 1) + (1 : Int32))).1 30 1, pI (pI m0 31 (m0.1 30 1).toNatClampNeg p0) 30 1 (((pI m0 31 (m0.1 30 1).toNatClampNeg p0).1 30 1) + (1 : Int32)))
    else none
  else
    some ((-4 : Int32), m0)
abbrev rmX3_add : Room := { frames := 0, cells := 0, slots := 0, locals := 0 }

set_option maxRecDepth 100000 in
set_option maxHeartbeats 4000000 in
theorem c_X3_add {l : Launch} {G : GG} {b : Nat} {ad : Nat → Nat} {nt : Nat} {z : Nat → Nat} {p0 : Int32} {m0 : Mem} {r9 : Int32} {m9 : Mem} (hf : X3_add p0 m0 = some (r9, m9)) : MtI l yX3_add cX3_add 2 (some .int) rmX3_add G b (sg ad nt z) m0 [.ref (ad 30), .int p0] (pEI r9 (sg ad nt z) m9) := by
  refine mtI_of (by decide) (Nat.le_of_ble_eq_true rfl) .int rfl (fun Γ hG X hnm hr => ?_)
  have hret : ∀ (pc : Nat) (lv : List (Nat × Value)), decode cX3_add pc = .ok (.ireturn, 1) → narrow .int (.int r9) = .int r9 → Go Γ b (sg ad nt z) 0 0 pc lv [.int r9] m9 := fun pc lv d hn => hr pc lv _ _ _ d ⟨rfl, rfl, rfl⟩ hn
  show Go Γ b (sg ad nt z) 0 0 0 [(0, .ref (ad 30)), (1, .int p0)] [] m0
  refine g_aload_n X 0 dX3_add_0 rfl rfl ?_
  refine g_getI X 30 2 1 dX3_add_1 (sgN (by decide)) rfl (by decide) rfl iw_X3 (by decide) rfl q_fl_X3_15 ?_
  refine g_sipush X (v := 160) dX3_add_4 (by decide) ?_
  refine g_icmp_lt X (tgt := 13) dX3_add_7 (by decide) (fun c7 => ?_) (fun c7 => ?_)
  · have hf := it c7 hf
    refine g_aload_n X 0 dX3_add_13 rfl rfl ?_
    refine g_getr X (x := ad 31) 30 2 0 dX3_add_14 (sgN (by decide)) rfl (by decide) rfl iw_X3 (by decide) rfl q_fl_X3_9 rfl ?_
    refine g_aload_n X 0 dX3_add_17 rfl rfl ?_
    refine g_getI X 30 2 1 dX3_add_18 (sgN (by decide)) rfl (by decide) rfl iw_X3 (by decide) rfl q_fl_X3_15 ?_
    refine g_iload_n X 1 dX3_add_21 rfl rfl ?_
    obtain ⟨h22, hf⟩ := grd hf
    refine g_iast X 31 (n := 160) dX3_add_22 (sgN (by decide)) rfl rfl h22 ?_
    refine g_aload_n X 0 dX3_add_23 rfl rfl ?_
    refine g_dup X dX3_add_24 rfl ?_
    refine g_getI X 30 2 1 dX3_add_25 (sgN (by decide)) rfl (by decide) rfl iw_X3 (by decide) rfl q_fl_X3_15 ?_
    refine g_iconst X (v := 1) dX3_add_28 (by decide) ?_
    refine g_iadd X dX3_add_29 ?_
    refine g_putI X (tyf := tyX3) 30 2 1 dX3_add_30 (sgN (by decide)) rfl (by decide) rfl iw_X3 (by decide) rfl q_fl_X3_15 tyX3_ok nmX3 rfl rfl rfl ?_
    refine g_aload_n X 0 dX3_add_33 rfl rfl ?_
    refine g_getI X 30 2 1 dX3_add_34 (sgN (by decide)) rfl (by decide) rfl iw_X3 (by decide) rfl q_fl_X3_15 ?_
    obtain ⟨rfl, rfl⟩ := lf2 hf
    exact hret 37 _ dX3_add_37 rfl
  · have hf := ie c7 hf
    refine g_bipush X (v := -4) dX3_add_10 (by decide) ?_
    obtain ⟨rfl, rfl⟩ := lf2 hf
    exact hret 12 _ dX3_add_12 rfl

def X3_joinAt (p0 : Int32) (m0 : Mem) : Option (Int32 × Mem) :=
  if (m0.1 30 3) = (13 : Int32) then
    if p0 = 0 then
      some ((0 : Int32), m0)
    else
      some ((-1 : Int32), m0)
  else
    if (m0.1 30 3) = (14 : Int32) then
      if p0 = (1 : Int32) then
        some ((1 : Int32), m0)
      else
        some ((-1 : Int32), m0)
    else
      if (m0.1 30 3) = (42 : Int32) then
        if p0 = (4 : Int32) then
          some ((7 : Int32), m0)
        else
          some ((-1 : Int32), m0)
      else
        if (m0.1 30 3) = (43 : Int32) then
          if p0 = (3 : Int32) then
            some ((5 : Int32), m0)
          else
            some ((-1 : Int32), m0)
        else
          if (m0.1 30 3) = (45 : Int32) then
            if p0 = (3 : Int32) then
              some ((6 : Int32), m0)
            else
              some ((-1 : Int32), m0)
          else
            if (m0.1 30 3) = (60 : Int32) then
              if p0 = (2 : Int32) then
                some ((3 : Int32), m0)
              else
                some ((-1 : Int32), m0)
            else
              if (m0.1 30 3) = (61 : Int32) then
                if p0 = (2 : Int32) then
                  some ((4 : Int32), m0)
                else
                  some ((-1 : Int32), m0)
              else
                some ((-1 : Int32), m0)
abbrev rmX3_joinAt : Room := { frames := 0, cells := 0, slots := 0, locals := 0 }

set_option maxRecDepth 100000 in
set_option maxHeartbeats 4000000 in
theorem c_X3_joinAt {l : Launch} {G : GG} {b : Nat} {ad : Nat → Nat} {nt : Nat} {z : Nat → Nat} {p0 : Int32} {m0 : Mem} {r9 : Int32} {m9 : Mem} (hf : X3_joinAt p0 m0 = some (r9, m9)) : MtI l yX3_joinAt cX3_joinAt 2 (some .int) rmX3_joinAt G b (sg ad nt z) m0 [.ref (ad 30), .int p0] (pEI r9 (sg ad nt z) m9) := by
  refine mtI_of (by decide) (Nat.le_of_ble_eq_true rfl) .int rfl (fun Γ hG X hnm hr => ?_)
  have hret : ∀ (pc : Nat) (lv : List (Nat × Value)), decode cX3_joinAt pc = .ok (.ireturn, 1) → narrow .int (.int r9) = .int r9 → Go Γ b (sg ad nt z) 0 0 pc lv [.int r9] m9 := fun pc lv d hn => hr pc lv _ _ _ d ⟨rfl, rfl, rfl⟩ hn
  show Go Γ b (sg ad nt z) 0 0 0 [(0, .ref (ad 30)), (1, .int p0)] [] m0
  refine g_aload_n X 0 dX3_joinAt_0 rfl rfl ?_
  refine g_getI X 30 2 3 dX3_joinAt_1 (sgN (by decide)) rfl (by decide) rfl iw_X3 (by decide) rfl q_fl_X3_22 ?_
  by_cases c4_0 : (m0.1 30 3) = (13 : Int32)
  · have hf := it c4_0 hf
    refine g_lookup X (tgt := 72) (off := 68) dX3_joinAt_4 (by decide) (by rw [c4_0]; rfl) (by decide) ?_
    refine g_iload_n X 1 dX3_joinAt_72 rfl rfl ?_
    refine g_if_ne X (tgt := 80) dX3_joinAt_73 (by decide) (fun c73 => ?_) (fun c73 => ?_)
    · have hf := ie c73 hf
      refine g_iconst X (v := -1) dX3_joinAt_80 (by decide) ?_
      obtain ⟨rfl, rfl⟩ := lf2 hf
      exact hret 81 _ dX3_joinAt_81 rfl
    · have hf := it c73 hf
      refine g_iconst X (v := 0) dX3_joinAt_76 (by decide) ?_
      refine g_goto X (tgt := 81) dX3_joinAt_77 (by decide) ?_
      obtain ⟨rfl, rfl⟩ := lf2 hf
      exact hret 81 _ dX3_joinAt_81 rfl
  · have hf := ie c4_0 hf
    by_cases c4_1 : (m0.1 30 3) = (14 : Int32)
    · have hf := it c4_1 hf
      refine g_lookup X (tgt := 82) (off := 78) dX3_joinAt_4 (by decide) (by rw [c4_1]; rfl) (by decide) ?_
      refine g_iload_n X 1 dX3_joinAt_82 rfl rfl ?_
      refine g_iconst X (v := 1) dX3_joinAt_83 (by decide) ?_
      refine g_icmp_ne X (tgt := 91) dX3_joinAt_84 (by decide) (fun c84 => ?_) (fun c84 => ?_)
      · have hf := ie c84 hf
        refine g_iconst X (v := -1) dX3_joinAt_91 (by decide) ?_
        obtain ⟨rfl, rfl⟩ := lf2 hf
        exact hret 92 _ dX3_joinAt_92 rfl
      · have hf := it c84 hf
        refine g_iconst X (v := 1) dX3_joinAt_87 (by decide) ?_
        refine g_goto X (tgt := 92) dX3_joinAt_88 (by decide) ?_
        obtain ⟨rfl, rfl⟩ := lf2 hf
        exact hret 92 _ dX3_joinAt_92 rfl
    · have hf := ie c4_1 hf
      by_cases c4_2 : (m0.1 30 3) = (42 : Int32)
      · have hf := it c4_2 hf
        refine g_lookup X (tgt := 138) (off := 134) dX3_joinAt_4 (by decide) (by rw [c4_2]; rfl) (by decide) ?_
        refine g_iload_n X 1 dX3_joinAt_138 rfl rfl ?_
        refine g_iconst X (v := 4) dX3_joinAt_139 (by decide) ?_
        refine g_icmp_ne X (tgt := 148) dX3_joinAt_140 (by decide) (fun c140 => ?_) (fun c140 => ?_)
        · have hf := ie c140 hf
          refine g_iconst X (v := -1) dX3_joinAt_148 (by decide) ?_
          obtain ⟨rfl, rfl⟩ := lf2 hf
          exact hret 149 _ dX3_joinAt_149 rfl
        · have hf := it c140 hf
          refine g_bipush X (v := 7) dX3_joinAt_143 (by decide) ?_
          refine g_goto X (tgt := 149) dX3_joinAt_145 (by decide) ?_
          obtain ⟨rfl, rfl⟩ := lf2 hf
          exact hret 149 _ dX3_joinAt_149 rfl
      · have hf := ie c4_2 hf
        by_cases c4_3 : (m0.1 30 3) = (43 : Int32)
        · have hf := it c4_3 hf
          refine g_lookup X (tgt := 115) (off := 111) dX3_joinAt_4 (by decide) (by rw [c4_3]; rfl) (by decide) ?_
          refine g_iload_n X 1 dX3_joinAt_115 rfl rfl ?_
          refine g_iconst X (v := 3) dX3_joinAt_116 (by decide) ?_
          refine g_icmp_ne X (tgt := 124) dX3_joinAt_117 (by decide) (fun c117 => ?_) (fun c117 => ?_)
          · have hf := ie c117 hf
            refine g_iconst X (v := -1) dX3_joinAt_124 (by decide) ?_
            obtain ⟨rfl, rfl⟩ := lf2 hf
            exact hret 125 _ dX3_joinAt_125 rfl
          · have hf := it c117 hf
            refine g_iconst X (v := 5) dX3_joinAt_120 (by decide) ?_
            refine g_goto X (tgt := 125) dX3_joinAt_121 (by decide) ?_
            obtain ⟨rfl, rfl⟩ := lf2 hf
            exact hret 125 _ dX3_joinAt_125 rfl
        · have hf := ie c4_3 hf
          by_cases c4_4 : (m0.1 30 3) = (45 : Int32)
          · have hf := it c4_4 hf
            refine g_lookup X (tgt := 126) (off := 122) dX3_joinAt_4 (by decide) (by rw [c4_4]; rfl) (by decide) ?_
            refine g_iload_n X 1 dX3_joinAt_126 rfl rfl ?_
            refine g_iconst X (v := 3) dX3_joinAt_127 (by decide) ?_
            refine g_icmp_ne X (tgt := 136) dX3_joinAt_128 (by decide) (fun c128 => ?_) (fun c128 => ?_)
            · have hf := ie c128 hf
              refine g_iconst X (v := -1) dX3_joinAt_136 (by decide) ?_
              obtain ⟨rfl, rfl⟩ := lf2 hf
              exact hret 137 _ dX3_joinAt_137 rfl
            · have hf := it c128 hf
              refine g_bipush X (v := 6) dX3_joinAt_131 (by decide) ?_
              refine g_goto X (tgt := 137) dX3_joinAt_133 (by decide) ?_
              obtain ⟨rfl, rfl⟩ := lf2 hf
              exact hret 137 _ dX3_joinAt_137 rfl
          · have hf := ie c4_4 hf
            by_cases c4_5 : (m0.1 30 3) = (60 : Int32)
            · have hf := it c4_5 hf
              refine g_lookup X (tgt := 93) (off := 89) dX3_joinAt_4 (by decide) (by rw [c4_5]; rfl) (by decide) ?_
              refine g_iload_n X 1 dX3_joinAt_93 rfl rfl ?_
              refine g_iconst X (v := 2) dX3_joinAt_94 (by decide) ?_
              refine g_icmp_ne X (tgt := 102) dX3_joinAt_95 (by decide) (fun c95 => ?_) (fun c95 => ?_)
              · have hf := ie c95 hf
                refine g_iconst X (v := -1) dX3_joinAt_102 (by decide) ?_
                obtain ⟨rfl, rfl⟩ := lf2 hf
                exact hret 103 _ dX3_joinAt_103 rfl
              · have hf := it c95 hf
                refine g_iconst X (v := 3) dX3_joinAt_98 (by decide) ?_
                refine g_goto X (tgt := 103) dX3_joinAt_99 (by decide) ?_
                obtain ⟨rfl, rfl⟩ := lf2 hf
                exact hret 103 _ dX3_joinAt_103 rfl
            · have hf := ie c4_5 hf
              by_cases c4_6 : (m0.1 30 3) = (61 : Int32)
              · have hf := it c4_6 hf
                refine g_lookup X (tgt := 104) (off := 100) dX3_joinAt_4 (by decide) (by rw [c4_6]; rfl) (by decide) ?_
                refine g_iload_n X 1 dX3_joinAt_104 rfl rfl ?_
                refine g_iconst X (v := 2) dX3_joinAt_105 (by decide) ?_
                refine g_icmp_ne X (tgt := 113) dX3_joinAt_106 (by decide) (fun c106 => ?_) (fun c106 => ?_)
                · have hf := ie c106 hf
                  refine g_iconst X (v := -1) dX3_joinAt_113 (by decide) ?_
                  obtain ⟨rfl, rfl⟩ := lf2 hf
                  exact hret 114 _ dX3_joinAt_114 rfl
                · have hf := it c106 hf
                  refine g_iconst X (v := 4) dX3_joinAt_109 (by decide) ?_
                  refine g_goto X (tgt := 114) dX3_joinAt_110 (by decide) ?_
                  obtain ⟨rfl, rfl⟩ := lf2 hf
                  exact hret 114 _ dX3_joinAt_114 rfl
              · have hf := ie c4_6 hf
                refine g_lookup X (tgt := 150) (off := 146) dX3_joinAt_4 (by decide) ((lv_osw c4_0 rfl).trans ((lv_osw c4_1 rfl).trans ((lv_osw c4_2 rfl).trans ((lv_osw c4_3 rfl).trans ((lv_osw c4_4 rfl).trans ((lv_osw c4_5 rfl).trans ((lv_osw c4_6 rfl).trans rfl))))))) (by decide) ?_
                refine g_iconst X (v := -1) dX3_joinAt_150 (by decide) ?_
                obtain ⟨rfl, rfl⟩ := lf2 hf
                exact hret 151 _ dX3_joinAt_151 rfl

def X3_fail (m0 : Mem) : Option (Mem) :=
  if (m0.1 30 2) = (-1 : Int32) then
    some (pI (pI m0 30 2 (m0.1 30 4)) 30 3 (1 : Int32))
  else
    some (pI m0 30 3 (1 : Int32))
abbrev rmX3_fail : Room := { frames := 0, cells := 0, slots := 0, locals := 0 }

set_option maxRecDepth 100000 in
set_option maxHeartbeats 4000000 in
theorem c_X3_fail {l : Launch} {G : GG} {b : Nat} {ad : Nat → Nat} {nt : Nat} {z : Nat → Nat} {m0 : Mem} {m9 : Mem} (hf : X3_fail m0 = some m9) : MtV l yX3_fail cX3_fail 1 (none) rmX3_fail G b (sg ad nt z) m0 [.ref (ad 30)] (pEV (sg ad nt z) m9) := by
  refine mtV_of (by decide) (Nat.le_of_ble_eq_true rfl) rfl (fun Γ hG X hnm hr => ?_)
  have hret : ∀ (pc : Nat) (lv : List (Nat × Value)), decode cX3_fail pc = .ok (.return_, 1) → Go Γ b (sg ad nt z) 0 0 pc lv [] m9 := fun pc lv d => hr pc lv _ _ d ⟨rfl, rfl⟩
  show Go Γ b (sg ad nt z) 0 0 0 [(0, .ref (ad 30))] [] m0
  refine g_aload_n X 0 dX3_fail_0 rfl rfl ?_
  refine g_getI X 30 2 2 dX3_fail_1 (sgN (by decide)) rfl (by decide) rfl iw_X3 (by decide) rfl q_fl_X3_19 ?_
  refine g_iconst X (v := -1) dX3_fail_4 (by decide) ?_
  refine g_icmp_ne X (tgt := 16) dX3_fail_5 (by decide) (fun c5 => ?_) (fun c5 => ?_)
  · have hf := ie c5 hf
    refine g_aload_n X 0 dX3_fail_16 rfl rfl ?_
    refine g_iconst X (v := 1) dX3_fail_17 (by decide) ?_
    refine g_putI X (tyf := tyX3) 30 2 3 dX3_fail_18 (sgN (by decide)) rfl (by decide) rfl iw_X3 (by decide) rfl q_fl_X3_22 tyX3_ok nmX3 rfl rfl rfl ?_
    obtain rfl := lf1 hf
    exact hret 21 _ dX3_fail_21
  · have hf := it c5 hf
    refine g_aload_n X 0 dX3_fail_8 rfl rfl ?_
    refine g_aload_n X 0 dX3_fail_9 rfl rfl ?_
    refine g_getI X 30 2 4 dX3_fail_10 (sgN (by decide)) rfl (by decide) rfl iw_X3 (by decide) rfl q_fl_X3_25 ?_
    refine g_putI X (tyf := tyX3) 30 2 2 dX3_fail_13 (sgN (by decide)) rfl (by decide) rfl iw_X3 (by decide) rfl q_fl_X3_19 tyX3_ok nmX3 rfl rfl rfl ?_
    refine g_aload_n X 0 dX3_fail_16 rfl rfl ?_
    refine g_iconst X (v := 1) dX3_fail_17 (by decide) ?_
    refine g_putI X (tyf := tyX3) 30 2 3 dX3_fail_18 (sgN (by decide)) rfl (by decide) rfl iw_X3 (by decide) rfl q_fl_X3_22 tyX3_ok nmX3 rfl rfl rfl ?_
    obtain rfl := lf1 hf
    exact hret 21 _ dX3_fail_21

theorem kV_X3_66 : wcV RX3 66 RX3 yX3_fail cX3_fail 1 (none) 0 := ⟨q_ml_X3_66, q_im_yX3_fail, q_se_yX3_fail, q_in_X3, q_co_yX3_fail, by decide +kernel⟩

def X3_opens (m0 : Mem) : Option (Int32 × Mem) :=
  if (m0.1 30 7) < (5 : Int32) then
    some ((1 : Int32), pI m0 30 7 ((m0.1 30 7) + (1 : Int32)))
  else
    bv (X3_fail m0) fun m9 =>
    some ((0 : Int32), m9)
abbrev rmX3_opens : Room := { frames := 1, cells := 0, slots := 0, locals := 20 }

set_option maxRecDepth 100000 in
set_option maxHeartbeats 4000000 in
theorem c_X3_opens {l : Launch} {G : GG} {b : Nat} {ad : Nat → Nat} {nt : Nat} {z : Nat → Nat} {m0 : Mem} {r9 : Int32} {m9 : Mem} (hf : X3_opens m0 = some (r9, m9)) : MtI l yX3_opens cX3_opens 1 (some .boolean) rmX3_opens G b (sg ad nt z) m0 [.ref (ad 30)] (pEI r9 (sg ad nt z) m9) := by
  refine mtI_of (by decide) (Nat.le_of_ble_eq_true rfl) .boolean rfl (fun Γ hG X hnm hr => ?_)
  have hret : ∀ (pc : Nat) (lv : List (Nat × Value)), decode cX3_opens pc = .ok (.ireturn, 1) → narrow .boolean (.int r9) = .int r9 → Go Γ b (sg ad nt z) 0 0 pc lv [.int r9] m9 := fun pc lv d hn => hr pc lv _ _ _ d ⟨rfl, rfl, rfl⟩ hn
  show Go Γ b (sg ad nt z) 0 0 0 [(0, .ref (ad 30))] [] m0
  refine g_aload_n X 0 dX3_opens_0 rfl rfl ?_
  refine g_getI X 30 2 7 dX3_opens_1 (sgN (by decide)) rfl (by decide) rfl iw_X3 (by decide) rfl q_fl_X3_34 ?_
  refine g_iconst X (v := 5) dX3_opens_4 (by decide) ?_
  refine g_icmp_lt X (tgt := 14) dX3_opens_5 (by decide) (fun c5 => ?_) (fun c5 => ?_)
  · have hf := it c5 hf
    refine g_aload_n X 0 dX3_opens_14 rfl rfl ?_
    refine g_dup X dX3_opens_15 rfl ?_
    refine g_getI X 30 2 7 dX3_opens_16 (sgN (by decide)) rfl (by decide) rfl iw_X3 (by decide) rfl q_fl_X3_34 ?_
    refine g_iconst X (v := 1) dX3_opens_19 (by decide) ?_
    refine g_iadd X dX3_opens_20 ?_
    refine g_putI X (tyf := tyX3) 30 2 7 dX3_opens_21 (sgN (by decide)) rfl (by decide) rfl iw_X3 (by decide) rfl q_fl_X3_34 tyX3_ok nmX3 rfl rfl rfl ?_
    refine g_iconst X (v := 1) dX3_opens_24 (by decide) ?_
    obtain ⟨rfl, rfl⟩ := lf2 hf
    exact hret 25 _ dX3_opens_25 rfl
  · have hf := ie c5 hf
    refine g_aload_n X 0 dX3_opens_8 rfl rfl ?_
    obtain ⟨m9, h9, hf⟩ := bv_i hf
    refine g_eVV X 30 2 [] kV_X3_66 (c_X3_fail h9) dX3_opens_9 rfl rfl (sgN (by decide)) rfl (by decide) rfl rfl ⟨(Nat.le_of_ble_eq_true rfl), (Nat.le_of_ble_eq_true rfl)⟩ ⟨rfl, rfl⟩ ⟨(Nat.zero_le _), (Nat.zero_le _)⟩ (Nat.le_of_ble_eq_true rfl) ?_
    refine g_iconst X (v := 0) dX3_opens_12 (by decide) ?_
    obtain ⟨rfl, rfl⟩ := lf2 hf
    exact hret 13 _ dX3_opens_13 rfl

def X3_emit (p0 : Int32) (m0 : Mem) : Option (Mem) :=
  if (m0.1 30 9) < (160 : Int32) then
    if inn (m0.1 30 9) 160 then
    some (pI (pI m0 32 (m0.1 30 9).toNatClampNeg p0) 30 9 (((pI m0 32 (m0.1 30 9).toNatClampNeg p0).1 30 9) + (1 : Int32)))
    else none
  else
    some m0
abbrev rmX3_emit : Room := { frames := 0, cells := 0, slots := 0, locals := 0 }

set_option maxRecDepth 100000 in
set_option maxHeartbeats 4000000 in
theorem c_X3_emit {l : Launch} {G : GG} {b : Nat} {ad : Nat → Nat} {nt : Nat} {z : Nat → Nat} {p0 : Int32} {m0 : Mem} {m9 : Mem} (hf : X3_emit p0 m0 = some m9) : MtV l yX3_emit cX3_emit 2 (none) rmX3_emit G b (sg ad nt z) m0 [.ref (ad 30), .int p0] (pEV (sg ad nt z) m9) := by
  refine mtV_of (by decide) (Nat.le_of_ble_eq_true rfl) rfl (fun Γ hG X hnm hr => ?_)
  have hret : ∀ (pc : Nat) (lv : List (Nat × Value)), decode cX3_emit pc = .ok (.return_, 1) → Go Γ b (sg ad nt z) 0 0 pc lv [] m9 := fun pc lv d => hr pc lv _ _ d ⟨rfl, rfl⟩
  show Go Γ b (sg ad nt z) 0 0 0 [(0, .ref (ad 30)), (1, .int p0)] [] m0
  refine g_aload_n X 0 dX3_emit_0 rfl rfl ?_
  refine g_getI X 30 2 9 dX3_emit_1 (sgN (by decide)) rfl (by decide) rfl iw_X3 (by decide) rfl q_fl_X3_40 ?_
  refine g_sipush X (v := 160) dX3_emit_4 (by decide) ?_
  refine g_icmp_lt X (tgt := 11) dX3_emit_7 (by decide) (fun c7 => ?_) (fun c7 => ?_)
  · have hf := it c7 hf
    refine g_aload_n X 0 dX3_emit_11 rfl rfl ?_
    refine g_getr X (x := ad 32) 30 2 8 dX3_emit_12 (sgN (by decide)) rfl (by decide) rfl iw_X3 (by decide) rfl q_fl_X3_37 rfl ?_
    refine g_aload_n X 0 dX3_emit_15 rfl rfl ?_
    refine g_getI X 30 2 9 dX3_emit_16 (sgN (by decide)) rfl (by decide) rfl iw_X3 (by decide) rfl q_fl_X3_40 ?_
    refine g_iload_n X 1 dX3_emit_19 rfl rfl ?_
    obtain ⟨h20, hf⟩ := grd hf
    refine g_iast X 32 (n := 160) dX3_emit_20 (sgN (by decide)) rfl rfl h20 ?_
    refine g_aload_n X 0 dX3_emit_21 rfl rfl ?_
    refine g_dup X dX3_emit_22 rfl ?_
    refine g_getI X 30 2 9 dX3_emit_23 (sgN (by decide)) rfl (by decide) rfl iw_X3 (by decide) rfl q_fl_X3_40 ?_
    refine g_iconst X (v := 1) dX3_emit_26 (by decide) ?_
    refine g_iadd X dX3_emit_27 ?_
    refine g_putI X (tyf := tyX3) 30 2 9 dX3_emit_28 (sgN (by decide)) rfl (by decide) rfl iw_X3 (by decide) rfl q_fl_X3_40 tyX3_ok nmX3 rfl rfl rfl ?_
    obtain rfl := lf1 hf
    exact hret 31 _ dX3_emit_31
  · have hf := ie c7 hf
    obtain rfl := lf1 hf
    exact hret 10 _ dX3_emit_10

def X3_takeNumber_84 : Nat → Int32 → Mem → Option (Mem)
  | 0, _, _ => none
  | n + 1, v1, m0 =>
    if (m0.1 30 6) ≤ v1 then
      some m0
    else
      if (m0.1 30 3) = (2 : Int32) then
        if inn v1 160 then
        X3_takeNumber_84 n (v1 + (1 : Int32)) (pI m0 30 5 ((((m0.1 30 5) * (10 : Int32)) + (m0.1 31 v1.toNatClampNeg)) - (48 : Int32)))
        else none
      else
        some m0
def X3_takeNumber_71 (s0 : Int32) (m0 : Mem) : Option (Mem) :=
  X3_takeNumber_84 10000 ((pI (pI m0 30 3 s0) 30 5 (0 : Int32)).1 30 4) (pI (pI m0 30 3 s0) 30 5 (0 : Int32))
def X3_takeNumber_52 (m0 : Mem) : Option (Mem) :=
  if ((m0.1 30 6) - (m0.1 30 4)) ≤ (4 : Int32) then
    X3_takeNumber_71 (2 : Int32) m0
  else
    X3_takeNumber_71 (1 : Int32) m0
def X3_takeNumber_0 : Nat → Mem → Option (Mem)
  | 0, _ => none
  | n + 1, m0 =>
    if (m0.1 30 1) ≤ (m0.1 30 6) then
      X3_takeNumber_52 m0
    else
      if inn (m0.1 30 6) 160 then
      if (m0.1 31 (m0.1 30 6).toNatClampNeg) < (48 : Int32) then
        X3_takeNumber_52 m0
      else
        if inn (m0.1 30 6) 160 then
        if (57 : Int32) < (m0.1 31 (m0.1 30 6).toNatClampNeg) then
          X3_takeNumber_52 m0
        else
          X3_takeNumber_0 n (pI m0 30 6 ((m0.1 30 6) + (1 : Int32)))
        else none
      else none
def X3_takeNumber (m0 : Mem) : Option (Mem) :=
  X3_takeNumber_0 10000 m0
abbrev rmX3_takeNumber : Room := { frames := 0, cells := 0, slots := 0, locals := 0 }
set_option maxRecDepth 100000 in
set_option maxHeartbeats 4000000 in
theorem w_X3_takeNumber_84 {Γ : Ga} {b : Nat} {ad : Nat → Nat} {nt : Nat} {z : Nat → Nat} {m9 : Mem} (X : Cx Γ b cX3_takeNumber 2 RX3 (none) rmX3_takeNumber) (hret : ∀ (pc : Nat) (lv : List (Nat × Value)), decode cX3_takeNumber pc = .ok (.return_, 1) → Go Γ b (sg ad nt z) 0 0 pc lv [] m9) : ∀ (n : Nat) (v1 : Int32) (m0 : Mem), X3_takeNumber_84 n v1 m0 = some m9 → Go Γ b (sg ad nt z) 0 0 84 [(0, .ref (ad 30)), (1, .int v1)] [] m0 := by
  intro n
  induction n with
  | zero =>
    intro v1 m0 hf
    cases hf
  | succ n ih =>
    intro v1 m0 hf
    refine g_iload_n X 1 dX3_takeNumber_84 rfl rfl ?_
    refine g_aload_n X 0 dX3_takeNumber_85 rfl rfl ?_
    refine g_getI X 30 2 6 dX3_takeNumber_86 (sgN (by decide)) rfl (by decide) rfl iw_X3 (by decide) rfl q_fl_X3_31 ?_
    refine g_icmp_ge X (tgt := 127) dX3_takeNumber_89 (by decide) (fun c89 => ?_) (fun c89 => ?_)
    · have hf := it c89 hf
      obtain rfl := lf1 hf
      exact hret 127 _ dX3_takeNumber_127
    · have hf := ie c89 hf
      refine g_aload_n X 0 dX3_takeNumber_92 rfl rfl ?_
      refine g_getI X 30 2 3 dX3_takeNumber_93 (sgN (by decide)) rfl (by decide) rfl iw_X3 (by decide) rfl q_fl_X3_22 ?_
      refine g_iconst X (v := 2) dX3_takeNumber_96 (by decide) ?_
      refine g_icmp_ne X (tgt := 127) dX3_takeNumber_97 (by decide) (fun c97 => ?_) (fun c97 => ?_)
      · have hf := ie c97 hf
        obtain rfl := lf1 hf
        exact hret 127 _ dX3_takeNumber_127
      · have hf := it c97 hf
        refine g_aload_n X 0 dX3_takeNumber_100 rfl rfl ?_
        refine g_aload_n X 0 dX3_takeNumber_101 rfl rfl ?_
        refine g_getI X 30 2 5 dX3_takeNumber_102 (sgN (by decide)) rfl (by decide) rfl iw_X3 (by decide) rfl q_fl_X3_28 ?_
        refine g_bipush X (v := 10) dX3_takeNumber_105 (by decide) ?_
        refine g_imul X dX3_takeNumber_107 ?_
        refine g_aload_n X 0 dX3_takeNumber_108 rfl rfl ?_
        refine g_getr X (x := ad 31) 30 2 0 dX3_takeNumber_109 (sgN (by decide)) rfl (by decide) rfl iw_X3 (by decide) rfl q_fl_X3_9 rfl ?_
        refine g_iload_n X 1 dX3_takeNumber_112 rfl rfl ?_
        obtain ⟨h113, hf⟩ := grd hf
        refine g_iald X 31 (n := 160) dX3_takeNumber_113 (sgN (by decide)) rfl rfl h113 ?_
        refine g_iadd X dX3_takeNumber_114 ?_
        refine g_bipush X (v := 48) dX3_takeNumber_115 (by decide) ?_
        refine g_isub X dX3_takeNumber_117 ?_
        refine g_putI X (tyf := tyX3) 30 2 5 dX3_takeNumber_118 (sgN (by decide)) rfl (by decide) rfl iw_X3 (by decide) rfl q_fl_X3_28 tyX3_ok nmX3 rfl rfl rfl ?_
        refine g_iinc X 1 (v := v1 + (1 : Int32)) (lv' := [(1, .int (v1 + (1 : Int32))), (0, .ref (ad 30))]) dX3_takeNumber_121 rfl rfl (by decide) rfl ?_
        refine g_goto X (tgt := 84) dX3_takeNumber_124 (by decide) ?_
        refine g_pick [1, 0] (lv' := [(0, .ref (ad 30)), (1, .int (v1 + (1 : Int32)))]) rfl ?_
        exact ih (v1 + (1 : Int32)) (pI m0 30 5 ((((m0.1 30 5) * (10 : Int32)) + (m0.1 31 v1.toNatClampNeg)) - (48 : Int32))) hf
set_option maxRecDepth 100000 in
set_option maxHeartbeats 4000000 in
theorem w_X3_takeNumber_71 {Γ : Ga} {b : Nat} {ad : Nat → Nat} {nt : Nat} {z : Nat → Nat} {m9 : Mem} (X : Cx Γ b cX3_takeNumber 2 RX3 (none) rmX3_takeNumber) (hret : ∀ (pc : Nat) (lv : List (Nat × Value)), decode cX3_takeNumber pc = .ok (.return_, 1) → Go Γ b (sg ad nt z) 0 0 pc lv [] m9) (s0 : Int32) (m0 : Mem) (hf : X3_takeNumber_71 s0 m0 = some m9) : Go Γ b (sg ad nt z) 0 0 71 [(0, .ref (ad 30))] [.int s0, .ref (ad 30)] m0 := by
  refine g_putI X (tyf := tyX3) 30 2 3 dX3_takeNumber_71 (sgN (by decide)) rfl (by decide) rfl iw_X3 (by decide) rfl q_fl_X3_22 tyX3_ok nmX3 rfl rfl rfl ?_
  refine g_aload_n X 0 dX3_takeNumber_74 rfl rfl ?_
  refine g_iconst X (v := 0) dX3_takeNumber_75 (by decide) ?_
  refine g_putI X (tyf := tyX3) 30 2 5 dX3_takeNumber_76 (sgN (by decide)) rfl (by decide) rfl iw_X3 (by decide) rfl q_fl_X3_28 tyX3_ok nmX3 rfl rfl rfl ?_
  refine g_aload_n X 0 dX3_takeNumber_79 rfl rfl ?_
  refine g_getI X 30 2 4 dX3_takeNumber_80 (sgN (by decide)) rfl (by decide) rfl iw_X3 (by decide) rfl q_fl_X3_25 ?_
  refine g_istore_n X (lv' := [(1, .int ((pI (pI m0 30 3 s0) 30 5 (0 : Int32)).1 30 4)), (0, .ref (ad 30))]) dX3_takeNumber_83 rfl (by decide) rfl ?_
  refine g_pick [1, 0] (lv' := [(0, .ref (ad 30)), (1, .int ((pI (pI m0 30 3 s0) 30 5 (0 : Int32)).1 30 4))]) rfl ?_
  exact w_X3_takeNumber_84 X hret 10000 ((pI (pI m0 30 3 s0) 30 5 (0 : Int32)).1 30 4) (pI (pI m0 30 3 s0) 30 5 (0 : Int32)) hf
set_option maxRecDepth 100000 in
set_option maxHeartbeats 4000000 in
theorem w_X3_takeNumber_52 {Γ : Ga} {b : Nat} {ad : Nat → Nat} {nt : Nat} {z : Nat → Nat} {m9 : Mem} (X : Cx Γ b cX3_takeNumber 2 RX3 (none) rmX3_takeNumber) (hret : ∀ (pc : Nat) (lv : List (Nat × Value)), decode cX3_takeNumber pc = .ok (.return_, 1) → Go Γ b (sg ad nt z) 0 0 pc lv [] m9) (m0 : Mem) (hf : X3_takeNumber_52 m0 = some m9) : Go Γ b (sg ad nt z) 0 0 52 [(0, .ref (ad 30))] [] m0 := by
  refine g_aload_n X 0 dX3_takeNumber_52 rfl rfl ?_
  refine g_aload_n X 0 dX3_takeNumber_53 rfl rfl ?_
  refine g_getI X 30 2 6 dX3_takeNumber_54 (sgN (by decide)) rfl (by decide) rfl iw_X3 (by decide) rfl q_fl_X3_31 ?_
  refine g_aload_n X 0 dX3_takeNumber_57 rfl rfl ?_
  refine g_getI X 30 2 4 dX3_takeNumber_58 (sgN (by decide)) rfl (by decide) rfl iw_X3 (by decide) rfl q_fl_X3_25 ?_
  refine g_isub X dX3_takeNumber_61 ?_
  refine g_iconst X (v := 4) dX3_takeNumber_62 (by decide) ?_
  refine g_icmp_le X (tgt := 70) dX3_takeNumber_63 (by decide) (fun c63 => ?_) (fun c63 => ?_)
  · have hf := it c63 hf
    refine g_iconst X (v := 2) dX3_takeNumber_70 (by decide) ?_
    exact w_X3_takeNumber_71 X hret (2 : Int32) m0 hf
  · have hf := ie c63 hf
    refine g_iconst X (v := 1) dX3_takeNumber_66 (by decide) ?_
    refine g_goto X (tgt := 71) dX3_takeNumber_67 (by decide) ?_
    exact w_X3_takeNumber_71 X hret (1 : Int32) m0 hf
set_option maxRecDepth 100000 in
set_option maxHeartbeats 4000000 in
theorem w_X3_takeNumber_0 {Γ : Ga} {b : Nat} {ad : Nat → Nat} {nt : Nat} {z : Nat → Nat} {m9 : Mem} (X : Cx Γ b cX3_takeNumber 2 RX3 (none) rmX3_takeNumber) (hret : ∀ (pc : Nat) (lv : List (Nat × Value)), decode cX3_takeNumber pc = .ok (.return_, 1) → Go Γ b (sg ad nt z) 0 0 pc lv [] m9) : ∀ (n : Nat) (m0 : Mem), X3_takeNumber_0 n m0 = some m9 → Go Γ b (sg ad nt z) 0 0 0 [(0, .ref (ad 30))] [] m0 := by
  intro n
  induction n with
  | zero =>
    intro m0 hf
    cases hf
  | succ n ih =>
    intro m0 hf
    refine g_aload_n X 0 dX3_takeNumber_0 rfl rfl ?_
    refine g_getI X 30 2 6 dX3_takeNumber_1 (sgN (by decide)) rfl (by decide) rfl iw_X3 (by decide) rfl q_fl_X3_31 ?_
    refine g_aload_n X 0 dX3_takeNumber_4 rfl rfl ?_
    refine g_getI X 30 2 1 dX3_takeNumber_5 (sgN (by decide)) rfl (by decide) rfl iw_X3 (by decide) rfl q_fl_X3_15 ?_
    refine g_icmp_ge X (tgt := 52) dX3_takeNumber_8 (by decide) (fun c8 => ?_) (fun c8 => ?_)
    · have hf := it c8 hf
      exact w_X3_takeNumber_52 X hret m0 hf
    · have hf := ie c8 hf
      refine g_aload_n X 0 dX3_takeNumber_11 rfl rfl ?_
      refine g_getr X (x := ad 31) 30 2 0 dX3_takeNumber_12 (sgN (by decide)) rfl (by decide) rfl iw_X3 (by decide) rfl q_fl_X3_9 rfl ?_
      refine g_aload_n X 0 dX3_takeNumber_15 rfl rfl ?_
      refine g_getI X 30 2 6 dX3_takeNumber_16 (sgN (by decide)) rfl (by decide) rfl iw_X3 (by decide) rfl q_fl_X3_31 ?_
      obtain ⟨h19, hf⟩ := grd hf
      refine g_iald X 31 (n := 160) dX3_takeNumber_19 (sgN (by decide)) rfl rfl h19 ?_
      refine g_bipush X (v := 48) dX3_takeNumber_20 (by decide) ?_
      refine g_icmp_lt X (tgt := 52) dX3_takeNumber_22 (by decide) (fun c22 => ?_) (fun c22 => ?_)
      · have hf := it c22 hf
        exact w_X3_takeNumber_52 X hret m0 hf
      · have hf := ie c22 hf
        refine g_aload_n X 0 dX3_takeNumber_25 rfl rfl ?_
        refine g_getr X (x := ad 31) 30 2 0 dX3_takeNumber_26 (sgN (by decide)) rfl (by decide) rfl iw_X3 (by decide) rfl q_fl_X3_9 rfl ?_
        refine g_aload_n X 0 dX3_takeNumber_29 rfl rfl ?_
        refine g_getI X 30 2 6 dX3_takeNumber_30 (sgN (by decide)) rfl (by decide) rfl iw_X3 (by decide) rfl q_fl_X3_31 ?_
        obtain ⟨h33, hf⟩ := grd hf
        refine g_iald X 31 (n := 160) dX3_takeNumber_33 (sgN (by decide)) rfl rfl h33 ?_
        refine g_bipush X (v := 57) dX3_takeNumber_34 (by decide) ?_
        refine g_icmp_gt X (tgt := 52) dX3_takeNumber_36 (by decide) (fun c36 => ?_) (fun c36 => ?_)
        · have hf := it c36 hf
          exact w_X3_takeNumber_52 X hret m0 hf
        · have hf := ie c36 hf
          refine g_aload_n X 0 dX3_takeNumber_39 rfl rfl ?_
          refine g_dup X dX3_takeNumber_40 rfl ?_
          refine g_getI X 30 2 6 dX3_takeNumber_41 (sgN (by decide)) rfl (by decide) rfl iw_X3 (by decide) rfl q_fl_X3_31 ?_
          refine g_iconst X (v := 1) dX3_takeNumber_44 (by decide) ?_
          refine g_iadd X dX3_takeNumber_45 ?_
          refine g_putI X (tyf := tyX3) 30 2 6 dX3_takeNumber_46 (sgN (by decide)) rfl (by decide) rfl iw_X3 (by decide) rfl q_fl_X3_31 tyX3_ok nmX3 rfl rfl rfl ?_
          refine g_goto X (tgt := 0) dX3_takeNumber_49 (by decide) ?_
          exact ih (pI m0 30 6 ((m0.1 30 6) + (1 : Int32))) hf
set_option maxRecDepth 100000 in
set_option maxHeartbeats 4000000 in
theorem c_X3_takeNumber {l : Launch} {G : GG} {b : Nat} {ad : Nat → Nat} {nt : Nat} {z : Nat → Nat} {m0 : Mem} {m9 : Mem} (hf : X3_takeNumber m0 = some m9) : MtV l yX3_takeNumber cX3_takeNumber 2 (none) rmX3_takeNumber G b (sg ad nt z) m0 [.ref (ad 30)] (pEV (sg ad nt z) m9) := by
  refine mtV_of (by decide) (Nat.le_of_ble_eq_true rfl) rfl (fun Γ hG X hnm hr => ?_)
  have hret : ∀ (pc : Nat) (lv : List (Nat × Value)), decode cX3_takeNumber pc = .ok (.return_, 1) → Go Γ b (sg ad nt z) 0 0 pc lv [] m9 := fun pc lv d => hr pc lv _ _ d ⟨rfl, rfl⟩
  show Go Γ b (sg ad nt z) 0 0 0 [(0, .ref (ad 30))] [] m0
  exact w_X3_takeNumber_0 X hret 10000 m0 hf

def X4_lay (p0 : Int32) (p1 : Int32) (p2 : Int32) (m0 : Mem) : Option (Int32 × Mem) :=
  if inn ((p0 * (8 : Int32)) + p1) 64 then
  if inn ((p0 * (8 : Int32)) + p1) 64 then
  if inn ((p1 * (8 : Int32)) + p0) 64 then
  some (m0.1 2 ((p0 * (8 : Int32)) + p1).toNatClampNeg, pI (pI (pI (pI m0 2 ((p0 * (8 : Int32)) + p1).toNatClampNeg p2) 2 ((p1 * (8 : Int32)) + p0).toNatClampNeg p2) 1 3 (0 : Int32)) 1 4 (((pI (pI (pI m0 2 ((p0 * (8 : Int32)) + p1).toNatClampNeg p2) 2 ((p1 * (8 : Int32)) + p0).toNatClampNeg p2) 1 3 (0 : Int32)).1 1 4) + (1 : Int32)))
  else none
  else none
  else none
abbrev rmX4_lay : Room := { frames := 0, cells := 0, slots := 0, locals := 0 }

set_option maxRecDepth 100000 in
set_option maxHeartbeats 4000000 in
theorem c_X4_lay {l : Launch} {G : GG} {b : Nat} {ad : Nat → Nat} {nt : Nat} {z : Nat → Nat} {p0 : Int32} {p1 : Int32} {p2 : Int32} {m0 : Mem} {r9 : Int32} {m9 : Mem} (hf : X4_lay p0 p1 p2 m0 = some (r9, m9)) : MtI l yX4_lay cX4_lay 5 (some .int) rmX4_lay G b (sg ad nt z) m0 [.ref (ad 1), .int p0, .int p1, .int p2] (pEI r9 (sg ad nt z) m9) := by
  refine mtI_of (by decide) (Nat.le_of_ble_eq_true rfl) .int rfl (fun Γ hG X hnm hr => ?_)
  have hret : ∀ (pc : Nat) (lv : List (Nat × Value)), decode cX4_lay pc = .ok (.ireturn, 1) → narrow .int (.int r9) = .int r9 → Go Γ b (sg ad nt z) 0 0 pc lv [.int r9] m9 := fun pc lv d hn => hr pc lv _ _ _ d ⟨rfl, rfl, rfl⟩ hn
  show Go Γ b (sg ad nt z) 0 0 0 [(0, .ref (ad 1)), (1, .int p0), (2, .int p1), (3, .int p2)] [] m0
  refine g_aload_n X 0 dX4_lay_0 rfl rfl ?_
  refine g_getr X (x := ad 2) 1 3 0 dX4_lay_1 (sgN (by decide)) rfl (by decide) rfl iw_X4 (by decide) rfl q_fl_X4_9 rfl ?_
  refine g_iload_n X 1 dX4_lay_4 rfl rfl ?_
  refine g_bipush X (v := 8) dX4_lay_5 (by decide) ?_
  refine g_imul X dX4_lay_7 ?_
  refine g_iload_n X 2 dX4_lay_8 rfl rfl ?_
  refine g_iadd X dX4_lay_9 ?_
  obtain ⟨h10, hf⟩ := grd hf
  refine g_iald X 2 (n := 64) dX4_lay_10 (sgN (by decide)) rfl rfl h10 ?_
  refine g_istore X (lv' := [(4, .int (m0.1 2 ((p0 * (8 : Int32)) + p1).toNatClampNeg)), (0, .ref (ad 1)), (1, .int p0), (2, .int p1), (3, .int p2)]) dX4_lay_11 (by decide) rfl ?_
  refine g_aload_n X 1 dX4_lay_13 rfl rfl ?_
  refine g_getr X (x := ad 2) 1 3 0 dX4_lay_14 (sgN (by decide)) rfl (by decide) rfl iw_X4 (by decide) rfl q_fl_X4_9 rfl ?_
  refine g_iload_n X 2 dX4_lay_17 rfl rfl ?_
  refine g_bipush X (v := 8) dX4_lay_18 (by decide) ?_
  refine g_imul X dX4_lay_20 ?_
  refine g_iload_n X 3 dX4_lay_21 rfl rfl ?_
  refine g_iadd X dX4_lay_22 ?_
  refine g_iload_n X 4 dX4_lay_23 rfl rfl ?_
  obtain ⟨h24, hf⟩ := grd hf
  refine g_iast X 2 (n := 64) dX4_lay_24 (sgN (by decide)) rfl rfl h24 ?_
  refine g_aload_n X 1 dX4_lay_25 rfl rfl ?_
  refine g_getr X (x := ad 2) 1 3 0 dX4_lay_26 (sgN (by decide)) rfl (by decide) rfl iw_X4 (by decide) rfl q_fl_X4_9 rfl ?_
  refine g_iload_n X 3 dX4_lay_29 rfl rfl ?_
  refine g_bipush X (v := 8) dX4_lay_30 (by decide) ?_
  refine g_imul X dX4_lay_32 ?_
  refine g_iload_n X 2 dX4_lay_33 rfl rfl ?_
  refine g_iadd X dX4_lay_34 ?_
  refine g_iload_n X 4 dX4_lay_35 rfl rfl ?_
  obtain ⟨h36, hf⟩ := grd hf
  refine g_iast X 2 (n := 64) dX4_lay_36 (sgN (by decide)) rfl rfl h36 ?_
  refine g_aload_n X 1 dX4_lay_37 rfl rfl ?_
  refine g_iconst X (v := 0) dX4_lay_38 (by decide) ?_
  refine g_putI X (tyf := tyX4) 1 3 3 dX4_lay_39 (sgN (by decide)) rfl (by decide) rfl iw_X4 (by decide) rfl q_fl_X4_21 tyX4_ok nmX4 rfl rfl rfl ?_
  refine g_aload_n X 1 dX4_lay_42 rfl rfl ?_
  refine g_dup X dX4_lay_43 rfl ?_
  refine g_getI X 1 3 4 dX4_lay_44 (sgN (by decide)) rfl (by decide) rfl iw_X4 (by decide) rfl q_fl_X4_25 ?_
  refine g_iconst X (v := 1) dX4_lay_47 (by decide) ?_
  refine g_iadd X dX4_lay_48 ?_
  refine g_putI X (tyf := tyX4) 1 3 4 dX4_lay_49 (sgN (by decide)) rfl (by decide) rfl iw_X4 (by decide) rfl q_fl_X4_25 tyX4_ok nmX4 rfl rfl rfl ?_
  refine g_iload X 0 dX4_lay_52 rfl ?_
  obtain ⟨rfl, rfl⟩ := lf2 hf
  exact hret 54 _ dX4_lay_54 rfl

def X4_becomeK (m0 : Mem) : Option (Mem) :=
  if (¬ (0 : Int32) < 0 ∧ ¬ (0 : Int32) < 0 ∧ ¬ (64 : Int32) < 0 ∧ (0 : Int32).toNatClampNeg + (64 : Int32).toNatClampNeg ≤ 64 ∧ (0 : Int32).toNatClampNeg + (64 : Int32).toNatClampNeg ≤ 64) then
  some (pI (pI (pC m0 2 13 (0 : Int32).toNatClampNeg (0 : Int32).toNatClampNeg (64 : Int32).toNatClampNeg) 12 3 (0 : Int32)) 12 4 (((pI (pC m0 2 13 (0 : Int32).toNatClampNeg (0 : Int32).toNatClampNeg (64 : Int32).toNatClampNeg) 12 3 (0 : Int32)).1 12 4) + (1 : Int32)))
  else none
abbrev rmX4_becomeK : Room := { frames := 1, cells := 0, slots := 0, locals := 60 }

set_option maxRecDepth 100000 in
set_option maxHeartbeats 4000000 in
theorem c_X4_becomeK {l : Launch} {G : GG} {b : Nat} {ad : Nat → Nat} {nt : Nat} {z : Nat → Nat} {m0 : Mem} {m9 : Mem} (hf : X4_becomeK m0 = some m9) : MtV l yX4_become cX4_become 2 (none) rmX4_becomeK G b (sg ad nt z) m0 [.ref (ad 12), .ref (ad 1)] (pEV (sg ad nt z) m9) := by
  refine mtV_of (by decide) (Nat.le_of_ble_eq_true rfl) rfl (fun Γ hG X hnm hr => ?_)
  have hret : ∀ (pc : Nat) (lv : List (Nat × Value)), decode cX4_become pc = .ok (.return_, 1) → Go Γ b (sg ad nt z) 0 0 pc lv [] m9 := fun pc lv d => hr pc lv _ _ d ⟨rfl, rfl⟩
  show Go Γ b (sg ad nt z) 0 0 0 [(0, .ref (ad 12)), (1, .ref (ad 1))] [] m0
  refine g_aload_n X 1 dX4_become_0 rfl rfl ?_
  refine g_getr X (x := ad 2) 1 3 0 dX4_become_1 (sgN (by decide)) rfl (by decide) rfl iw_X4 (by decide) rfl q_fl_X4_9 rfl ?_
  refine g_iconst X (v := 0) dX4_become_4 (by decide) ?_
  refine g_aload_n X 0 dX4_become_5 rfl rfl ?_
  refine g_getr X (x := ad 13) 12 3 0 dX4_become_6 (sgN (by decide)) rfl (by decide) rfl iw_X4 (by decide) rfl q_fl_X4_9 rfl ?_
  refine g_iconst X (v := 0) dX4_become_9 (by decide) ?_
  refine g_bipush X (v := 64) dX4_become_10 (by decide) ?_
  obtain ⟨⟨ga, gb, gc, gd, ge⟩, hf⟩ := grd hf
  refine g_copyi X 2 13 dX4_become_12 q_ml_X4_28 q_native_copy q_static_copy q_in_Sys (sgN (by decide)) rfl rfl (sgN (by decide)) rfl rfl ga gb gc gd ge (by decide) (by decide) ?_
  refine g_aload_n X 0 dX4_become_15 rfl rfl ?_
  refine g_iconst X (v := 0) dX4_become_16 (by decide) ?_
  refine g_putI X (tyf := tyX4) 12 3 3 dX4_become_17 (sgN (by decide)) rfl (by decide) rfl iw_X4 (by decide) rfl q_fl_X4_21 tyX4_ok nmX4 rfl rfl rfl ?_
  refine g_aload_n X 0 dX4_become_20 rfl rfl ?_
  refine g_dup X dX4_become_21 rfl ?_
  refine g_getI X 12 3 4 dX4_become_22 (sgN (by decide)) rfl (by decide) rfl iw_X4 (by decide) rfl q_fl_X4_25 ?_
  refine g_iconst X (v := 1) dX4_become_25 (by decide) ?_
  refine g_iadd X dX4_become_26 ?_
  refine g_putI X (tyf := tyX4) 12 3 4 dX4_become_27 (sgN (by decide)) rfl (by decide) rfl iw_X4 (by decide) rfl q_fl_X4_25 tyX4_ok nmX4 rfl rfl rfl ?_
  obtain rfl := lf1 hf
  exact hret 30 _ dX4_become_30

def X4_becomeB (m0 : Mem) : Option (Mem) :=
  if (¬ (0 : Int32) < 0 ∧ ¬ (0 : Int32) < 0 ∧ ¬ (64 : Int32) < 0 ∧ (0 : Int32).toNatClampNeg + (64 : Int32).toNatClampNeg ≤ 64 ∧ (0 : Int32).toNatClampNeg + (64 : Int32).toNatClampNeg ≤ 64) then
  some (pI (pI (pC m0 13 2 (0 : Int32).toNatClampNeg (0 : Int32).toNatClampNeg (64 : Int32).toNatClampNeg) 1 3 (0 : Int32)) 1 4 (((pI (pC m0 13 2 (0 : Int32).toNatClampNeg (0 : Int32).toNatClampNeg (64 : Int32).toNatClampNeg) 1 3 (0 : Int32)).1 1 4) + (1 : Int32)))
  else none
abbrev rmX4_becomeB : Room := { frames := 1, cells := 0, slots := 0, locals := 60 }

set_option maxRecDepth 100000 in
set_option maxHeartbeats 4000000 in
theorem c_X4_becomeB {l : Launch} {G : GG} {b : Nat} {ad : Nat → Nat} {nt : Nat} {z : Nat → Nat} {m0 : Mem} {m9 : Mem} (hf : X4_becomeB m0 = some m9) : MtV l yX4_become cX4_become 2 (none) rmX4_becomeB G b (sg ad nt z) m0 [.ref (ad 1), .ref (ad 12)] (pEV (sg ad nt z) m9) := by
  refine mtV_of (by decide) (Nat.le_of_ble_eq_true rfl) rfl (fun Γ hG X hnm hr => ?_)
  have hret : ∀ (pc : Nat) (lv : List (Nat × Value)), decode cX4_become pc = .ok (.return_, 1) → Go Γ b (sg ad nt z) 0 0 pc lv [] m9 := fun pc lv d => hr pc lv _ _ d ⟨rfl, rfl⟩
  show Go Γ b (sg ad nt z) 0 0 0 [(0, .ref (ad 1)), (1, .ref (ad 12))] [] m0
  refine g_aload_n X 1 dX4_become_0 rfl rfl ?_
  refine g_getr X (x := ad 13) 12 3 0 dX4_become_1 (sgN (by decide)) rfl (by decide) rfl iw_X4 (by decide) rfl q_fl_X4_9 rfl ?_
  refine g_iconst X (v := 0) dX4_become_4 (by decide) ?_
  refine g_aload_n X 0 dX4_become_5 rfl rfl ?_
  refine g_getr X (x := ad 2) 1 3 0 dX4_become_6 (sgN (by decide)) rfl (by decide) rfl iw_X4 (by decide) rfl q_fl_X4_9 rfl ?_
  refine g_iconst X (v := 0) dX4_become_9 (by decide) ?_
  refine g_bipush X (v := 64) dX4_become_10 (by decide) ?_
  obtain ⟨⟨ga, gb, gc, gd, ge⟩, hf⟩ := grd hf
  refine g_copyi X 13 2 dX4_become_12 q_ml_X4_28 q_native_copy q_static_copy q_in_Sys (sgN (by decide)) rfl rfl (sgN (by decide)) rfl rfl ga gb gc gd ge (by decide) (by decide) ?_
  refine g_aload_n X 0 dX4_become_15 rfl rfl ?_
  refine g_iconst X (v := 0) dX4_become_16 (by decide) ?_
  refine g_putI X (tyf := tyX4) 1 3 3 dX4_become_17 (sgN (by decide)) rfl (by decide) rfl iw_X4 (by decide) rfl q_fl_X4_21 tyX4_ok nmX4 rfl rfl rfl ?_
  refine g_aload_n X 0 dX4_become_20 rfl rfl ?_
  refine g_dup X dX4_become_21 rfl ?_
  refine g_getI X 1 3 4 dX4_become_22 (sgN (by decide)) rfl (by decide) rfl iw_X4 (by decide) rfl q_fl_X4_25 ?_
  refine g_iconst X (v := 1) dX4_become_25 (by decide) ?_
  refine g_iadd X dX4_become_26 ?_
  refine g_putI X (tyf := tyX4) 1 3 4 dX4_become_27 (sgN (by decide)) rfl (by decide) rfl iw_X4 (by decide) rfl q_fl_X4_25 tyX4_ok nmX4 rfl rfl rfl ?_
  obtain rfl := lf1 hf
  exact hret 30 _ dX4_become_30

def X4_size_37 (k4 : Int32 → Int32 → Mem → Option (Int32 × Mem)) (k14 : Int32 → Int32 → Int32 → Mem → Option (Int32 × Mem)) (v1 : Int32) (v2 : Int32) (v3 : Int32) (m0 : Mem) : Option (Int32 × Mem) :=
  k14 v1 v2 (v3 + (1 : Int32)) m0
def X4_size_14 (k4 : Int32 → Int32 → Mem → Option (Int32 × Mem)) : Nat → Int32 → Int32 → Int32 → Mem → Option (Int32 × Mem)
  | 0, _, _, _, _ => none
  | n + 1, v1, v2, v3, m0 =>
    if (8 : Int32) ≤ v3 then
      k4 v1 (v2 + (1 : Int32)) m0
    else
      if inn ((v2 * (8 : Int32)) + v3) 64 then
      if (m0.1 2 ((v2 * (8 : Int32)) + v3).toNatClampNeg) = 0 then
        X4_size_37 k4 (X4_size_14 k4 n) v1 v2 v3 m0
      else
        X4_size_37 k4 (X4_size_14 k4 n) (v1 + (1 : Int32)) v2 v3 m0
      else none
def X4_size_4 : Nat → Int32 → Int32 → Mem → Option (Int32 × Mem)
  | 0, _, _, _ => none
  | n + 1, v1, v2, m0 =>
    if (8 : Int32) ≤ v2 then
      some (v1, m0)
    else
      X4_size_14 (X4_size_4 n) 10000 v1 v2 (v2 + (1 : Int32)) m0
def X4_size (m0 : Mem) : Option (Int32 × Mem) :=
  X4_size_4 10000 (0 : Int32) (0 : Int32) m0
abbrev rmX4_size : Room := { frames := 0, cells := 0, slots := 0, locals := 0 }
set_option maxRecDepth 100000 in
set_option maxHeartbeats 4000000 in
theorem w_X4_size_37 {Γ : Ga} {b : Nat} {ad : Nat → Nat} {nt : Nat} {z : Nat → Nat} {k4 : Int32 → Int32 → Mem → Option (Int32 × Mem)} {k14 : Int32 → Int32 → Int32 → Mem → Option (Int32 × Mem)} {r9 : Int32} {m9 : Mem} (X : Cx Γ b cX4_size 4 RX4 (some .int) rmX4_size) (hret : ∀ (pc : Nat) (lv : List (Nat × Value)), decode cX4_size pc = .ok (.ireturn, 1) → narrow .int (.int r9) = .int r9 → Go Γ b (sg ad nt z) 0 0 pc lv [.int r9] m9) (hk4 : ∀ (v1 : Int32) (v2 : Int32) (m0 : Mem), k4 v1 v2 m0 = some (r9, m9) → Go Γ b (sg ad nt z) 0 0 4 [(0, .ref (ad 1)), (1, .int v1), (2, .int v2)] [] m0) (hk14 : ∀ (v1 : Int32) (v2 : Int32) (v3 : Int32) (m0 : Mem), k14 v1 v2 v3 m0 = some (r9, m9) → Go Γ b (sg ad nt z) 0 0 14 [(0, .ref (ad 1)), (1, .int v1), (2, .int v2), (3, .int v3)] [] m0) (v1 : Int32) (v2 : Int32) (v3 : Int32) (m0 : Mem) (hf : X4_size_37 k4 k14 v1 v2 v3 m0 = some (r9, m9)) : Go Γ b (sg ad nt z) 0 0 37 [(0, .ref (ad 1)), (1, .int v1), (2, .int v2), (3, .int v3)] [] m0 := by
  refine g_iinc X 3 (v := v3 + (1 : Int32)) (lv' := [(3, .int (v3 + (1 : Int32))), (0, .ref (ad 1)), (1, .int v1), (2, .int v2)]) dX4_size_37 rfl rfl (by decide) rfl ?_
  refine g_goto X (tgt := 14) dX4_size_40 (by decide) ?_
  refine g_pick [1, 2, 3, 0] (lv' := [(0, .ref (ad 1)), (1, .int v1), (2, .int v2), (3, .int (v3 + (1 : Int32)))]) rfl ?_
  exact hk14 v1 v2 (v3 + (1 : Int32)) m0 hf
set_option maxRecDepth 100000 in
set_option maxHeartbeats 4000000 in
theorem w_X4_size_14 {Γ : Ga} {b : Nat} {ad : Nat → Nat} {nt : Nat} {z : Nat → Nat} {k4 : Int32 → Int32 → Mem → Option (Int32 × Mem)} {r9 : Int32} {m9 : Mem} (X : Cx Γ b cX4_size 4 RX4 (some .int) rmX4_size) (hret : ∀ (pc : Nat) (lv : List (Nat × Value)), decode cX4_size pc = .ok (.ireturn, 1) → narrow .int (.int r9) = .int r9 → Go Γ b (sg ad nt z) 0 0 pc lv [.int r9] m9) (hk4 : ∀ (v1 : Int32) (v2 : Int32) (m0 : Mem), k4 v1 v2 m0 = some (r9, m9) → Go Γ b (sg ad nt z) 0 0 4 [(0, .ref (ad 1)), (1, .int v1), (2, .int v2)] [] m0) : ∀ (n : Nat) (v1 : Int32) (v2 : Int32) (v3 : Int32) (m0 : Mem), X4_size_14 k4 n v1 v2 v3 m0 = some (r9, m9) → Go Γ b (sg ad nt z) 0 0 14 [(0, .ref (ad 1)), (1, .int v1), (2, .int v2), (3, .int v3)] [] m0 := by
  intro n
  induction n with
  | zero =>
    intro v1 v2 v3 m0 hf
    cases hf
  | succ n ih =>
    intro v1 v2 v3 m0 hf
    refine g_iload_n X 3 dX4_size_14 rfl rfl ?_
    refine g_bipush X (v := 8) dX4_size_15 (by decide) ?_
    refine g_icmp_ge X (tgt := 43) dX4_size_17 (by decide) (fun c17 => ?_) (fun c17 => ?_)
    · have hf := it c17 hf
      refine g_iinc X 2 (v := v2 + (1 : Int32)) (lv' := [(2, .int (v2 + (1 : Int32))), (0, .ref (ad 1)), (1, .int v1), (3, .int v3)]) dX4_size_43 rfl rfl (by decide) rfl ?_
      refine g_goto X (tgt := 4) dX4_size_46 (by decide) ?_
      refine g_pick [1, 2, 0] (lv' := [(0, .ref (ad 1)), (1, .int v1), (2, .int (v2 + (1 : Int32)))]) rfl ?_
      exact hk4 v1 (v2 + (1 : Int32)) m0 hf
    · have hf := ie c17 hf
      refine g_aload_n X 0 dX4_size_20 rfl rfl ?_
      refine g_getr X (x := ad 2) 1 3 0 dX4_size_21 (sgN (by decide)) rfl (by decide) rfl iw_X4 (by decide) rfl q_fl_X4_9 rfl ?_
      refine g_iload_n X 2 dX4_size_24 rfl rfl ?_
      refine g_bipush X (v := 8) dX4_size_25 (by decide) ?_
      refine g_imul X dX4_size_27 ?_
      refine g_iload_n X 3 dX4_size_28 rfl rfl ?_
      refine g_iadd X dX4_size_29 ?_
      obtain ⟨h30, hf⟩ := grd hf
      refine g_iald X 2 (n := 64) dX4_size_30 (sgN (by decide)) rfl rfl h30 ?_
      refine g_if_eq X (tgt := 37) dX4_size_31 (by decide) (fun c31 => ?_) (fun c31 => ?_)
      · have hf := it c31 hf
        exact w_X4_size_37 X hret hk4 ih v1 v2 v3 m0 hf
      · have hf := ie c31 hf
        refine g_iinc X 1 (v := v1 + (1 : Int32)) (lv' := [(1, .int (v1 + (1 : Int32))), (0, .ref (ad 1)), (2, .int v2), (3, .int v3)]) dX4_size_34 rfl rfl (by decide) rfl ?_
        refine g_pick [1, 0, 2, 3] (lv' := [(0, .ref (ad 1)), (1, .int (v1 + (1 : Int32))), (2, .int v2), (3, .int v3)]) rfl ?_
        exact w_X4_size_37 X hret hk4 ih (v1 + (1 : Int32)) v2 v3 m0 hf
set_option maxRecDepth 100000 in
set_option maxHeartbeats 4000000 in
theorem w_X4_size_4 {Γ : Ga} {b : Nat} {ad : Nat → Nat} {nt : Nat} {z : Nat → Nat} {r9 : Int32} {m9 : Mem} (X : Cx Γ b cX4_size 4 RX4 (some .int) rmX4_size) (hret : ∀ (pc : Nat) (lv : List (Nat × Value)), decode cX4_size pc = .ok (.ireturn, 1) → narrow .int (.int r9) = .int r9 → Go Γ b (sg ad nt z) 0 0 pc lv [.int r9] m9) : ∀ (n : Nat) (v1 : Int32) (v2 : Int32) (m0 : Mem), X4_size_4 n v1 v2 m0 = some (r9, m9) → Go Γ b (sg ad nt z) 0 0 4 [(0, .ref (ad 1)), (1, .int v1), (2, .int v2)] [] m0 := by
  intro n
  induction n with
  | zero =>
    intro v1 v2 m0 hf
    cases hf
  | succ n ih =>
    intro v1 v2 m0 hf
    refine g_iload_n X 2 dX4_size_4 rfl rfl ?_
    refine g_bipush X (v := 8) dX4_size_5 (by decide) ?_
    refine g_icmp_ge X (tgt := 49) dX4_size_7 (by decide) (fun c7 => ?_) (fun c7 => ?_)
    · have hf := it c7 hf
      refine g_iload_n X 1 dX4_size_49 rfl rfl ?_
      obtain ⟨rfl, rfl⟩ := lf2 hf
      exact hret 50 _ dX4_size_50 rfl
    · have hf := ie c7 hf
      refine g_iload_n X 2 dX4_size_10 rfl rfl ?_
      refine g_iconst X (v := 1) dX4_size_11 (by decide) ?_
      refine g_iadd X dX4_size_12 ?_
      refine g_istore_n X (lv' := [(3, .int (v2 + (1 : Int32))), (0, .ref (ad 1)), (1, .int v1), (2, .int v2)]) dX4_size_13 rfl (by decide) rfl ?_
      refine g_pick [1, 2, 3, 0] (lv' := [(0, .ref (ad 1)), (1, .int v1), (2, .int v2), (3, .int (v2 + (1 : Int32)))]) rfl ?_
      exact w_X4_size_14 X hret ih 10000 v1 v2 (v2 + (1 : Int32)) m0 hf
set_option maxRecDepth 100000 in
set_option maxHeartbeats 4000000 in
theorem c_X4_size {l : Launch} {G : GG} {b : Nat} {ad : Nat → Nat} {nt : Nat} {z : Nat → Nat} {m0 : Mem} {r9 : Int32} {m9 : Mem} (hf : X4_size m0 = some (r9, m9)) : MtI l yX4_size cX4_size 4 (some .int) rmX4_size G b (sg ad nt z) m0 [.ref (ad 1)] (pEI r9 (sg ad nt z) m9) := by
  refine mtI_of (by decide) (Nat.le_of_ble_eq_true rfl) .int rfl (fun Γ hG X hnm hr => ?_)
  have hret : ∀ (pc : Nat) (lv : List (Nat × Value)), decode cX4_size pc = .ok (.ireturn, 1) → narrow .int (.int r9) = .int r9 → Go Γ b (sg ad nt z) 0 0 pc lv [.int r9] m9 := fun pc lv d hn => hr pc lv _ _ _ d ⟨rfl, rfl, rfl⟩ hn
  show Go Γ b (sg ad nt z) 0 0 0 [(0, .ref (ad 1))] [] m0
  refine g_iconst X (v := 0) dX4_size_0 (by decide) ?_
  refine g_istore_n X (lv' := [(1, .int (0 : Int32)), (0, .ref (ad 1))]) dX4_size_1 rfl (by decide) rfl ?_
  refine g_iconst X (v := 0) dX4_size_2 (by decide) ?_
  refine g_istore_n X (lv' := [(2, .int (0 : Int32)), (1, .int (0 : Int32)), (0, .ref (ad 1))]) dX4_size_3 rfl (by decide) rfl ?_
  refine g_pick [2, 1, 0] (lv' := [(0, .ref (ad 1)), (1, .int (0 : Int32)), (2, .int (0 : Int32))]) rfl ?_
  exact w_X4_size_4 X hret 10000 (0 : Int32) (0 : Int32) m0 hf

def X4_walked (p0 : Int32) (p1 : Int32) (p2 : Int32) (m0 : Mem) : Option (Int32 × Mem) :=
  bv (X4_spreadS p0 p2 (0 : Int32) m0) fun m8 =>
  if inn p1 8 then
  if (m8.1 4 p1.toNatClampNeg) = (999 : Int32) then
    some ((-1 : Int32), m8)
  else
    if inn p1 8 then
    some (m8.1 4 p1.toNatClampNeg, m8)
    else none
  else none
abbrev rmX4_walked : Room := { frames := 1, cells := 0, slots := 0, locals := 29 }

set_option maxRecDepth 100000 in
set_option maxHeartbeats 4000000 in
theorem c_X4_walked {l : Launch} {G : GG} {b : Nat} {ad : Nat → Nat} {nt : Nat} {z : Nat → Nat} {p0 : Int32} {p1 : Int32} {p2 : Int32} {m0 : Mem} {r9 : Int32} {m9 : Mem} (hf : X4_walked p0 p1 p2 m0 = some (r9, m9)) : MtI l yX4_walked cX4_walked 4 (some .int) rmX4_walked G b (sg ad nt z) m0 [.ref (ad 1), .int p0, .int p1, .int p2] (pEI r9 (sg ad nt z) m9) := by
  refine mtI_of (by decide) (Nat.le_of_ble_eq_true rfl) .int rfl (fun Γ hG X hnm hr => ?_)
  have hret : ∀ (pc : Nat) (lv : List (Nat × Value)), decode cX4_walked pc = .ok (.ireturn, 1) → narrow .int (.int r9) = .int r9 → Go Γ b (sg ad nt z) 0 0 pc lv [.int r9] m9 := fun pc lv d hn => hr pc lv _ _ _ d ⟨rfl, rfl, rfl⟩ hn
  show Go Γ b (sg ad nt z) 0 0 0 [(0, .ref (ad 1)), (1, .int p0), (2, .int p1), (3, .int p2)] [] m0
  refine g_aload_n X 0 dX4_walked_0 rfl rfl ?_
  refine g_iload_n X 1 dX4_walked_1 rfl rfl ?_
  refine g_iload_n X 3 dX4_walked_2 rfl rfl ?_
  refine g_aload_n X 0 dX4_walked_3 rfl rfl ?_
  refine g_getr X (x := ad 4) 1 3 2 dX4_walked_4 (sgN (by decide)) rfl (by decide) rfl iw_X4 (by decide) rfl q_fl_X4_18 rfl ?_
  refine g_iconst X (v := 0) dX4_walked_7 (by decide) ?_
  obtain ⟨m8, h8, hf⟩ := bv_i hf
  refine g_eVV X 1 3 [.int p0, .int p2, .ref (ad 4), .int (0 : Int32)] kV_X4_34 (c_X4_spreadS h8) dX4_walked_8 rfl rfl (sgN (by decide)) rfl (by decide) rfl rfl ⟨(Nat.le_of_ble_eq_true rfl), (Nat.le_of_ble_eq_true rfl)⟩ ⟨rfl, rfl⟩ ⟨(Nat.zero_le _), (Nat.zero_le _)⟩ (Nat.le_of_ble_eq_true rfl) ?_
  refine g_aload_n X 0 dX4_walked_11 rfl rfl ?_
  refine g_getr X (x := ad 4) 1 3 2 dX4_walked_12 (sgN (by decide)) rfl (by decide) rfl iw_X4 (by decide) rfl q_fl_X4_18 rfl ?_
  refine g_iload_n X 2 dX4_walked_15 rfl rfl ?_
  obtain ⟨h16, hf⟩ := grd hf
  refine g_iald X 4 (n := 8) dX4_walked_16 (sgN (by decide)) rfl rfl h16 ?_
  refine g_sipush X (v := 999) dX4_walked_17 (by decide) ?_
  refine g_icmp_ne X (tgt := 27) dX4_walked_20 (by decide) (fun c20 => ?_) (fun c20 => ?_)
  · have hf := ie c20 hf
    refine g_aload_n X 0 dX4_walked_27 rfl rfl ?_
    refine g_getr X (x := ad 4) 1 3 2 dX4_walked_28 (sgN (by decide)) rfl (by decide) rfl iw_X4 (by decide) rfl q_fl_X4_18 rfl ?_
    refine g_iload_n X 2 dX4_walked_31 rfl rfl ?_
    obtain ⟨h32, hf⟩ := grd hf
    refine g_iald X 4 (n := 8) dX4_walked_32 (sgN (by decide)) rfl rfl h32 ?_
    obtain ⟨rfl, rfl⟩ := lf2 hf
    exact hret 33 _ dX4_walked_33 rfl
  · have hf := it c20 hf
    refine g_iconst X (v := -1) dX4_walked_23 (by decide) ?_
    refine g_goto X (tgt := 33) dX4_walked_24 (by decide) ?_
    obtain ⟨rfl, rfl⟩ := lf2 hf
    exact hret 33 _ dX4_walked_33 rfl

def X4_reach_43 (k16 : Int32 → Int32 → Mem → Option (Int32 × Mem)) (v3 : Int32) (v4 : Int32) (m0 : Mem) : Option (Int32 × Mem) :=
  k16 v3 (v4 + (1 : Int32)) m0
def X4_reach_16 : Nat → Int32 → Int32 → Mem → Option (Int32 × Mem)
  | 0, _, _, _ => none
  | n + 1, v3, v4, m0 =>
    if (8 : Int32) ≤ v4 then
      some (v3, m0)
    else
      if inn v4 8 then
      if (m0.1 4 v4.toNatClampNeg) = (999 : Int32) then
        X4_reach_43 (X4_reach_16 n) v3 v4 m0
      else
        X4_reach_43 (X4_reach_16 n) (v3 ||| ((1 : Int32) <<< (v4 &&& 31))) v4 m0
      else none
def X4_reach (p0 : Int32) (p1 : Int32) (m0 : Mem) : Option (Int32 × Mem) :=
  bv (X4_spreadS p0 p1 (0 : Int32) m0) fun m8 =>
  X4_reach_16 10000 (0 : Int32) (0 : Int32) m8
abbrev rmX4_reach : Room := { frames := 1, cells := 0, slots := 0, locals := 29 }
set_option maxRecDepth 100000 in
set_option maxHeartbeats 4000000 in
theorem w_X4_reach_43 {Γ : Ga} {b : Nat} {ad : Nat → Nat} {nt : Nat} {z : Nat → Nat} {k16 : Int32 → Int32 → Mem → Option (Int32 × Mem)} {r9 : Int32} {m9 : Mem} (X : Cx Γ b cX4_reach 5 RX4 (some .int) rmX4_reach) (hret : ∀ (pc : Nat) (lv : List (Nat × Value)), decode cX4_reach pc = .ok (.ireturn, 1) → narrow .int (.int r9) = .int r9 → Go Γ b (sg ad nt z) 0 0 pc lv [.int r9] m9) (hk16 : ∀ (v3 : Int32) (v4 : Int32) (m0 : Mem), k16 v3 v4 m0 = some (r9, m9) → Go Γ b (sg ad nt z) 0 0 16 [(0, .ref (ad 1)), (3, .int v3), (4, .int v4)] [] m0) (v3 : Int32) (v4 : Int32) (m0 : Mem) (hf : X4_reach_43 k16 v3 v4 m0 = some (r9, m9)) : Go Γ b (sg ad nt z) 0 0 43 [(0, .ref (ad 1)), (3, .int v3), (4, .int v4)] [] m0 := by
  refine g_iinc X 2 (v := v4 + (1 : Int32)) (lv' := [(4, .int (v4 + (1 : Int32))), (0, .ref (ad 1)), (3, .int v3)]) dX4_reach_43 rfl rfl (by decide) rfl ?_
  refine g_goto X (tgt := 16) dX4_reach_46 (by decide) ?_
  refine g_pick [1, 2, 0] (lv' := [(0, .ref (ad 1)), (3, .int v3), (4, .int (v4 + (1 : Int32)))]) rfl ?_
  exact hk16 v3 (v4 + (1 : Int32)) m0 hf
set_option maxRecDepth 100000 in
set_option maxHeartbeats 4000000 in
theorem w_X4_reach_16 {Γ : Ga} {b : Nat} {ad : Nat → Nat} {nt : Nat} {z : Nat → Nat} {r9 : Int32} {m9 : Mem} (X : Cx Γ b cX4_reach 5 RX4 (some .int) rmX4_reach) (hret : ∀ (pc : Nat) (lv : List (Nat × Value)), decode cX4_reach pc = .ok (.ireturn, 1) → narrow .int (.int r9) = .int r9 → Go Γ b (sg ad nt z) 0 0 pc lv [.int r9] m9) : ∀ (n : Nat) (v3 : Int32) (v4 : Int32) (m0 : Mem), X4_reach_16 n v3 v4 m0 = some (r9, m9) → Go Γ b (sg ad nt z) 0 0 16 [(0, .ref (ad 1)), (3, .int v3), (4, .int v4)] [] m0 := by
  intro n
  induction n with
  | zero =>
    intro v3 v4 m0 hf
    cases hf
  | succ n ih =>
    intro v3 v4 m0 hf
    refine g_iload X 2 dX4_reach_16 rfl ?_
    refine g_bipush X (v := 8) dX4_reach_18 (by decide) ?_
    refine g_icmp_ge X (tgt := 49) dX4_reach_20 (by decide) (fun c20 => ?_) (fun c20 => ?_)
    · have hf := it c20 hf
      refine g_iload_n X 1 dX4_reach_49 rfl rfl ?_
      obtain ⟨rfl, rfl⟩ := lf2 hf
      exact hret 50 _ dX4_reach_50 rfl
    · have hf := ie c20 hf
      refine g_aload_n X 0 dX4_reach_23 rfl rfl ?_
      refine g_getr X (x := ad 4) 1 3 2 dX4_reach_24 (sgN (by decide)) rfl (by decide) rfl iw_X4 (by decide) rfl q_fl_X4_18 rfl ?_
      refine g_iload X 2 dX4_reach_27 rfl ?_
      obtain ⟨h29, hf⟩ := grd hf
      refine g_iald X 4 (n := 8) dX4_reach_29 (sgN (by decide)) rfl rfl h29 ?_
      refine g_sipush X (v := 999) dX4_reach_30 (by decide) ?_
      refine g_icmp_eq X (tgt := 43) dX4_reach_33 (by decide) (fun c33 => ?_) (fun c33 => ?_)
      · have hf := it c33 hf
        exact w_X4_reach_43 X hret ih v3 v4 m0 hf
      · have hf := ie c33 hf
        refine g_iload_n X 1 dX4_reach_36 rfl rfl ?_
        refine g_iconst X (v := 1) dX4_reach_37 (by decide) ?_
        refine g_iload X 2 dX4_reach_38 rfl ?_
        refine g_ishl X dX4_reach_40 ?_
        refine g_ior X dX4_reach_41 ?_
        refine g_istore_n X (lv' := [(3, .int (v3 ||| ((1 : Int32) <<< (v4 &&& 31)))), (0, .ref (ad 1)), (4, .int v4)]) dX4_reach_42 rfl (by decide) rfl ?_
        refine g_pick [1, 0, 2] (lv' := [(0, .ref (ad 1)), (3, .int (v3 ||| ((1 : Int32) <<< (v4 &&& 31)))), (4, .int v4)]) rfl ?_
        exact w_X4_reach_43 X hret ih (v3 ||| ((1 : Int32) <<< (v4 &&& 31))) v4 m0 hf
set_option maxRecDepth 100000 in
set_option maxHeartbeats 4000000 in
theorem c_X4_reach {l : Launch} {G : GG} {b : Nat} {ad : Nat → Nat} {nt : Nat} {z : Nat → Nat} {p0 : Int32} {p1 : Int32} {m0 : Mem} {r9 : Int32} {m9 : Mem} (hf : X4_reach p0 p1 m0 = some (r9, m9)) : MtI l yX4_reach cX4_reach 5 (some .int) rmX4_reach G b (sg ad nt z) m0 [.ref (ad 1), .int p0, .int p1] (pEI r9 (sg ad nt z) m9) := by
  refine mtI_of (by decide) (Nat.le_of_ble_eq_true rfl) .int rfl (fun Γ hG X hnm hr => ?_)
  have hret : ∀ (pc : Nat) (lv : List (Nat × Value)), decode cX4_reach pc = .ok (.ireturn, 1) → narrow .int (.int r9) = .int r9 → Go Γ b (sg ad nt z) 0 0 pc lv [.int r9] m9 := fun pc lv d hn => hr pc lv _ _ _ d ⟨rfl, rfl, rfl⟩ hn
  show Go Γ b (sg ad nt z) 0 0 0 [(0, .ref (ad 1)), (1, .int p0), (2, .int p1)] [] m0
  refine g_aload_n X 0 dX4_reach_0 rfl rfl ?_
  refine g_iload_n X 1 dX4_reach_1 rfl rfl ?_
  refine g_iload_n X 2 dX4_reach_2 rfl rfl ?_
  refine g_aload_n X 0 dX4_reach_3 rfl rfl ?_
  refine g_getr X (x := ad 4) 1 3 2 dX4_reach_4 (sgN (by decide)) rfl (by decide) rfl iw_X4 (by decide) rfl q_fl_X4_18 rfl ?_
  refine g_iconst X (v := 0) dX4_reach_7 (by decide) ?_
  obtain ⟨m8, h8, hf⟩ := bv_i hf
  refine g_eVV X 1 3 [.int p0, .int p1, .ref (ad 4), .int (0 : Int32)] kV_X4_34 (c_X4_spreadS h8) dX4_reach_8 rfl rfl (sgN (by decide)) rfl (by decide) rfl rfl ⟨(Nat.le_of_ble_eq_true rfl), (Nat.le_of_ble_eq_true rfl)⟩ ⟨rfl, rfl⟩ ⟨(Nat.zero_le _), (Nat.zero_le _)⟩ (Nat.le_of_ble_eq_true rfl) ?_
  refine g_iconst X (v := 0) dX4_reach_11 (by decide) ?_
  refine g_istore_n X (lv' := [(3, .int (0 : Int32)), (0, .ref (ad 1)), (1, .int p0), (2, .int p1)]) dX4_reach_12 rfl (by decide) rfl ?_
  refine g_iconst X (v := 0) dX4_reach_13 (by decide) ?_
  refine g_istore X (lv' := [(4, .int (0 : Int32)), (3, .int (0 : Int32)), (0, .ref (ad 1)), (1, .int p0), (2, .int p1)]) dX4_reach_14 (by decide) rfl ?_
  refine g_pick [2, 1, 0] (lv' := [(0, .ref (ad 1)), (3, .int (0 : Int32)), (4, .int (0 : Int32))]) rfl ?_
  exact w_X4_reach_16 X hret 10000 (0 : Int32) (0 : Int32) m8 hf

def J7_fill_53178_5 (s : Nat) : Nat → Int32 → Int32 → Int32 → Mem → Option (Mem)
  | 0, _, _, _, _ => none
  | n + 1, v1, v2, v3, m0 =>
    if v3 ≤ v2 then
      some m0
    else
      if inn v2 40 then
      J7_fill_53178_5 s n v1 (v2 + (1 : Int32)) v3 (pI m0 (s + 1) v2.toNatClampNeg v1)
      else none
def J7_fill_53178 (s : Nat) (p1 : Int32) (m0 : Mem) : Option (Mem) :=
  J7_fill_53178_5 s 10000 p1 (0 : Int32) (40 : Int32) m0
abbrev rmJ7_fill_53178 : Room := { frames := 0, cells := 0, slots := 0, locals := 0 }
set_option maxRecDepth 100000 in
set_option maxHeartbeats 4000000 in
theorem w_J7_fill_53178_5 {Γ : Ga} {b : Nat} {ad : Nat → Nat} {nt : Nat} {z : Nat → Nat} {s : Nat} {m9 : Mem} (hs9 : isS s) (X : Cx Γ b cJ7_fill_53178 4 RJ7 (none) rmJ7_fill_53178) (hret : ∀ (pc : Nat) (lv : List (Nat × Value)), decode cJ7_fill_53178 pc = .ok (.return_, 1) → Go Γ b (sg ad nt z) 0 0 pc lv [] m9) : ∀ (n : Nat) (v1 : Int32) (v2 : Int32) (v3 : Int32) (m0 : Mem), J7_fill_53178_5 s n v1 v2 v3 m0 = some m9 → Go Γ b (sg ad nt z) 0 0 5 [(0, .ref (ad (s + 1))), (1, .int v1), (2, .int v2), (3, .int v3)] [] m0 := by
  intro n
  induction n with
  | zero =>
    intro v1 v2 v3 m0 hf
    cases hf
  | succ n ih =>
    intro v1 v2 v3 m0 hf
    refine g_iload_n X 2 dJ7_fill_53178_5 rfl rfl ?_
    refine g_iload_n X 3 dJ7_fill_53178_6 rfl rfl ?_
    refine g_icmp_ge X (tgt := 20) dJ7_fill_53178_7 (by decide) (fun c7 => ?_) (fun c7 => ?_)
    · have hf := it c7 hf
      obtain rfl := lf1 hf
      exact hret 20 _ dJ7_fill_53178_20
    · have hf := ie c7 hf
      refine g_aload_n X 0 dJ7_fill_53178_10 rfl rfl ?_
      refine g_iload_n X 2 dJ7_fill_53178_11 rfl rfl ?_
      refine g_iload_n X 1 dJ7_fill_53178_12 rfl rfl ?_
      obtain ⟨h13, hf⟩ := grd hf
      refine g_iast X (s + 1) (n := 40) dJ7_fill_53178_13 (S_lt1 hs9) (S_kd1 hs9) (S_ln1 hs9) h13 ?_
      refine g_iinc X 2 (v := v2 + (1 : Int32)) (lv' := [(2, .int (v2 + (1 : Int32))), (0, .ref (ad (s + 1))), (1, .int v1), (3, .int v3)]) dJ7_fill_53178_14 rfl rfl (by decide) rfl ?_
      refine g_goto X (tgt := 5) dJ7_fill_53178_17 (by decide) ?_
      refine g_pick [1, 2, 0, 3] (lv' := [(0, .ref (ad (s + 1))), (1, .int v1), (2, .int (v2 + (1 : Int32))), (3, .int v3)]) rfl ?_
      exact ih v1 (v2 + (1 : Int32)) v3 (pI m0 (s + 1) v2.toNatClampNeg v1) hf
set_option maxRecDepth 100000 in
set_option maxHeartbeats 4000000 in
theorem c_J7_fill_53178 {l : Launch} {G : GG} {b : Nat} {ad : Nat → Nat} {nt : Nat} {z : Nat → Nat} {s : Nat} {p1 : Int32} {m0 : Mem} {m9 : Mem} (hs9 : isS s) (hf : J7_fill_53178 s p1 m0 = some m9) : MtV l yJ7_fill_53178 cJ7_fill_53178 4 (none) rmJ7_fill_53178 G b (sg ad nt z) m0 [.ref (ad (s + 1)), .int p1] (pEV (sg ad nt z) m9) := by
  refine mtV_of (by decide) (Nat.le_of_ble_eq_true rfl) rfl (fun Γ hG X hnm hr => ?_)
  have hret : ∀ (pc : Nat) (lv : List (Nat × Value)), decode cJ7_fill_53178 pc = .ok (.return_, 1) → Go Γ b (sg ad nt z) 0 0 pc lv [] m9 := fun pc lv d => hr pc lv _ _ d ⟨rfl, rfl⟩
  show Go Γ b (sg ad nt z) 0 0 0 [(0, .ref (ad (s + 1))), (1, .int p1)] [] m0
  refine g_iconst X (v := 0) dJ7_fill_53178_0 (by decide) ?_
  refine g_istore_n X (lv' := [(2, .int (0 : Int32)), (0, .ref (ad (s + 1))), (1, .int p1)]) dJ7_fill_53178_1 rfl (by decide) rfl ?_
  refine g_aload_n X 1 dJ7_fill_53178_2 rfl rfl ?_
  refine g_alen X (s + 1) 10 (n := 40) dJ7_fill_53178_3 (S_lt1 hs9) (S_kd1 hs9) rfl (S_ln1 hs9) rfl ?_
  refine g_istore_n X (lv' := [(3, .int (40 : Int32)), (2, .int (0 : Int32)), (0, .ref (ad (s + 1))), (1, .int p1)]) dJ7_fill_53178_4 rfl (by decide) rfl ?_
  refine g_pick [2, 3, 1, 0] (lv' := [(0, .ref (ad (s + 1))), (1, .int p1), (2, .int (0 : Int32)), (3, .int (40 : Int32))]) rfl ?_
  exact w_J7_fill_53178_5 hs9 X hret 10000 p1 (0 : Int32) (40 : Int32) m0 hf

theorem kS_X6_22 : wcS RX6 22 yJ7_fill_53178 cJ7_fill_53178 4 (none) 2 := ⟨q_ml_X6_22, q_st_yJ7_fill_53178, q_in_J7, q_co_yJ7_fill_53178, by decide +kernel⟩

def X6_become (s : Nat) (p0 : Int32) (p1 : Int32) (m0 : Mem) : Option (Mem) :=
  bv (J7_fill_53178 s (0 : Int32) (pI (pI m0 s 0 p0) s 1 p1)) fun m15 =>
  some m15
abbrev rmX6_become : Room := { frames := 1, cells := 0, slots := 0, locals := 23 }

set_option maxRecDepth 100000 in
set_option maxHeartbeats 4000000 in
theorem c_X6_become {l : Launch} {G : GG} {b : Nat} {ad : Nat → Nat} {nt : Nat} {z : Nat → Nat} {s : Nat} {p0 : Int32} {p1 : Int32} {m0 : Mem} {m9 : Mem} (hs9 : isS s) (hf : X6_become s p0 p1 m0 = some m9) : MtV l yX6_become cX6_become 3 (none) rmX6_become G b (sg ad nt z) m0 [.ref (ad s), .int p0, .int p1] (pEV (sg ad nt z) m9) := by
  refine mtV_of (by decide) (Nat.le_of_ble_eq_true rfl) rfl (fun Γ hG X hnm hr => ?_)
  have hret : ∀ (pc : Nat) (lv : List (Nat × Value)), decode cX6_become pc = .ok (.return_, 1) → Go Γ b (sg ad nt z) 0 0 pc lv [] m9 := fun pc lv d => hr pc lv _ _ d ⟨rfl, rfl⟩
  show Go Γ b (sg ad nt z) 0 0 0 [(0, .ref (ad s)), (1, .int p0), (2, .int p1)] [] m0
  refine g_aload_n X 0 dX6_become_0 rfl rfl ?_
  refine g_iload_n X 1 dX6_become_1 rfl rfl ?_
  refine g_putI X (tyf := tyX6) s 5 0 dX6_become_2 (S_lt0 hs9) (S_kd0 hs9) (by decide) rfl iw_X6 (by decide) rfl q_fl_X6_9 tyX6_ok nmX6 rfl rfl rfl ?_
  refine g_aload_n X 0 dX6_become_5 rfl rfl ?_
  refine g_iload_n X 2 dX6_become_6 rfl rfl ?_
  refine g_putI X (tyf := tyX6) s 5 1 dX6_become_7 (S_lt0 hs9) (S_kd0 hs9) (by decide) rfl iw_X6 (by decide) rfl q_fl_X6_15 tyX6_ok nmX6 rfl rfl rfl ?_
  refine g_aload_n X 0 dX6_become_10 rfl rfl ?_
  refine g_getr X (x := ad (s + 1)) s 5 2 dX6_become_11 (S_lt0 hs9) (S_kd0 hs9) (by decide) rfl iw_X6 (by decide) rfl q_fl_X6_18 (S_r2 hs9) ?_
  refine g_iconst X (v := 0) dX6_become_14 (by decide) ?_
  obtain ⟨m15, h15, hf⟩ := bv_i hf
  refine g_eSV X [.ref (ad (s + 1)), .int (0 : Int32)] kS_X6_22 (c_J7_fill_53178 hs9 h15) dX6_become_15 rfl rfl ⟨(Nat.le_of_ble_eq_true rfl), (Nat.le_of_ble_eq_true rfl)⟩ ⟨rfl, rfl⟩ ⟨(Nat.zero_le _), (Nat.zero_le _)⟩ (Nat.le_of_ble_eq_true rfl) ?_
  obtain rfl := lf1 hf
  exact hret 18 _ dX6_become_18

def X6_isMissing (s : Nat) (m0 : Mem) : Option (Int32 × Mem) :=
  if (m0.1 s 0) = (-1 : Int32) then
    some ((1 : Int32), m0)
  else
    some ((0 : Int32), m0)
abbrev rmX6_isMissing : Room := { frames := 0, cells := 0, slots := 0, locals := 0 }

set_option maxRecDepth 100000 in
set_option maxHeartbeats 4000000 in
theorem c_X6_isMissing {l : Launch} {G : GG} {b : Nat} {ad : Nat → Nat} {nt : Nat} {z : Nat → Nat} {s : Nat} {m0 : Mem} {r9 : Int32} {m9 : Mem} (hs9 : isS s) (hf : X6_isMissing s m0 = some (r9, m9)) : MtI l yX6_isMissing cX6_isMissing 1 (some .boolean) rmX6_isMissing G b (sg ad nt z) m0 [.ref (ad s)] (pEI r9 (sg ad nt z) m9) := by
  refine mtI_of (by decide) (Nat.le_of_ble_eq_true rfl) .boolean rfl (fun Γ hG X hnm hr => ?_)
  have hret : ∀ (pc : Nat) (lv : List (Nat × Value)), decode cX6_isMissing pc = .ok (.ireturn, 1) → narrow .boolean (.int r9) = .int r9 → Go Γ b (sg ad nt z) 0 0 pc lv [.int r9] m9 := fun pc lv d hn => hr pc lv _ _ _ d ⟨rfl, rfl, rfl⟩ hn
  show Go Γ b (sg ad nt z) 0 0 0 [(0, .ref (ad s))] [] m0
  refine g_aload_n X 0 dX6_isMissing_0 rfl rfl ?_
  refine g_getI X s 5 0 dX6_isMissing_1 (S_lt0 hs9) (S_kd0 hs9) (by decide) rfl iw_X6 (by decide) rfl q_fl_X6_9 ?_
  refine g_iconst X (v := -1) dX6_isMissing_4 (by decide) ?_
  refine g_icmp_ne X (tgt := 12) dX6_isMissing_5 (by decide) (fun c5 => ?_) (fun c5 => ?_)
  · have hf := ie c5 hf
    refine g_iconst X (v := 0) dX6_isMissing_12 (by decide) ?_
    obtain ⟨rfl, rfl⟩ := lf2 hf
    exact hret 13 _ dX6_isMissing_13 rfl
  · have hf := it c5 hf
    refine g_iconst X (v := 1) dX6_isMissing_8 (by decide) ?_
    refine g_goto X (tgt := 13) dX6_isMissing_9 (by decide) ?_
    obtain ⟨rfl, rfl⟩ := lf2 hf
    exact hret 13 _ dX6_isMissing_13 rfl

def X6_has (s : Nat) (p0 : Int32) (p1 : Int32) (m0 : Mem) : Option (Int32 × Mem) :=
  if p0 < 0 then
    some ((0 : Int32), m0)
  else
    if p1 < 0 then
      some ((0 : Int32), m0)
    else
      if (m0.1 s 1) < p0 then
        some ((0 : Int32), m0)
      else
        if ((m0.1 s 1) - p0) < p1 then
          some ((0 : Int32), m0)
        else
          some ((1 : Int32), m0)
abbrev rmX6_has : Room := { frames := 0, cells := 0, slots := 0, locals := 0 }

set_option maxRecDepth 100000 in
set_option maxHeartbeats 4000000 in
theorem c_X6_has {l : Launch} {G : GG} {b : Nat} {ad : Nat → Nat} {nt : Nat} {z : Nat → Nat} {s : Nat} {p0 : Int32} {p1 : Int32} {m0 : Mem} {r9 : Int32} {m9 : Mem} (hs9 : isS s) (hf : X6_has s p0 p1 m0 = some (r9, m9)) : MtI l yX6_has cX6_has 3 (some .boolean) rmX6_has G b (sg ad nt z) m0 [.ref (ad s), .int p0, .int p1] (pEI r9 (sg ad nt z) m9) := by
  refine mtI_of (by decide) (Nat.le_of_ble_eq_true rfl) .boolean rfl (fun Γ hG X hnm hr => ?_)
  have hret : ∀ (pc : Nat) (lv : List (Nat × Value)), decode cX6_has pc = .ok (.ireturn, 1) → narrow .boolean (.int r9) = .int r9 → Go Γ b (sg ad nt z) 0 0 pc lv [.int r9] m9 := fun pc lv d hn => hr pc lv _ _ _ d ⟨rfl, rfl, rfl⟩ hn
  show Go Γ b (sg ad nt z) 0 0 0 [(0, .ref (ad s)), (1, .int p0), (2, .int p1)] [] m0
  refine g_iload_n X 1 dX6_has_0 rfl rfl ?_
  refine g_if_lt X (tgt := 30) dX6_has_1 (by decide) (fun c1 => ?_) (fun c1 => ?_)
  · have hf := it c1 hf
    refine g_iconst X (v := 0) dX6_has_30 (by decide) ?_
    obtain ⟨rfl, rfl⟩ := lf2 hf
    exact hret 31 _ dX6_has_31 rfl
  · have hf := ie c1 hf
    refine g_iload_n X 2 dX6_has_4 rfl rfl ?_
    refine g_if_lt X (tgt := 30) dX6_has_5 (by decide) (fun c5 => ?_) (fun c5 => ?_)
    · have hf := it c5 hf
      refine g_iconst X (v := 0) dX6_has_30 (by decide) ?_
      obtain ⟨rfl, rfl⟩ := lf2 hf
      exact hret 31 _ dX6_has_31 rfl
    · have hf := ie c5 hf
      refine g_iload_n X 1 dX6_has_8 rfl rfl ?_
      refine g_aload_n X 0 dX6_has_9 rfl rfl ?_
      refine g_getI X s 5 1 dX6_has_10 (S_lt0 hs9) (S_kd0 hs9) (by decide) rfl iw_X6 (by decide) rfl q_fl_X6_15 ?_
      refine g_icmp_gt X (tgt := 30) dX6_has_13 (by decide) (fun c13 => ?_) (fun c13 => ?_)
      · have hf := it c13 hf
        refine g_iconst X (v := 0) dX6_has_30 (by decide) ?_
        obtain ⟨rfl, rfl⟩ := lf2 hf
        exact hret 31 _ dX6_has_31 rfl
      · have hf := ie c13 hf
        refine g_iload_n X 2 dX6_has_16 rfl rfl ?_
        refine g_aload_n X 0 dX6_has_17 rfl rfl ?_
        refine g_getI X s 5 1 dX6_has_18 (S_lt0 hs9) (S_kd0 hs9) (by decide) rfl iw_X6 (by decide) rfl q_fl_X6_15 ?_
        refine g_iload_n X 1 dX6_has_21 rfl rfl ?_
        refine g_isub X dX6_has_22 ?_
        refine g_icmp_gt X (tgt := 30) dX6_has_23 (by decide) (fun c23 => ?_) (fun c23 => ?_)
        · have hf := it c23 hf
          refine g_iconst X (v := 0) dX6_has_30 (by decide) ?_
          obtain ⟨rfl, rfl⟩ := lf2 hf
          exact hret 31 _ dX6_has_31 rfl
        · have hf := ie c23 hf
          refine g_iconst X (v := 1) dX6_has_26 (by decide) ?_
          refine g_goto X (tgt := 31) dX6_has_27 (by decide) ?_
          obtain ⟨rfl, rfl⟩ := lf2 hf
          exact hret 31 _ dX6_has_31 rfl

def X6_put (s : Nat) (p0 : Int32) (p1 : Int32) (m0 : Mem) : Option (Mem) :=
  if (m0.1 s 0) = 0 then
    if inn p0 40 then
    some (pI m0 (s + 1) p0.toNatClampNeg p1.toInt8.toInt32)
    else none
  else
    if (m0.1 s 0) = (1 : Int32) then
      if inn p0 40 then
      some (pI m0 (s + 1) p0.toNatClampNeg p1.toInt16.toInt32)
      else none
    else
      if inn p0 40 then
      some (pI m0 (s + 1) p0.toNatClampNeg p1)
      else none
abbrev rmX6_put : Room := { frames := 0, cells := 0, slots := 0, locals := 0 }

set_option maxRecDepth 100000 in
set_option maxHeartbeats 4000000 in
theorem c_X6_put {l : Launch} {G : GG} {b : Nat} {ad : Nat → Nat} {nt : Nat} {z : Nat → Nat} {s : Nat} {p0 : Int32} {p1 : Int32} {m0 : Mem} {m9 : Mem} (hs9 : isS s) (hf : X6_put s p0 p1 m0 = some m9) : MtV l yX6_put cX6_put 3 (none) rmX6_put G b (sg ad nt z) m0 [.ref (ad s), .int p0, .int p1] (pEV (sg ad nt z) m9) := by
  refine mtV_of (by decide) (Nat.le_of_ble_eq_true rfl) rfl (fun Γ hG X hnm hr => ?_)
  have hret : ∀ (pc : Nat) (lv : List (Nat × Value)), decode cX6_put pc = .ok (.return_, 1) → Go Γ b (sg ad nt z) 0 0 pc lv [] m9 := fun pc lv d => hr pc lv _ _ d ⟨rfl, rfl⟩
  show Go Γ b (sg ad nt z) 0 0 0 [(0, .ref (ad s)), (1, .int p0), (2, .int p1)] [] m0
  refine g_aload_n X 0 dX6_put_0 rfl rfl ?_
  refine g_getr X (x := ad (s + 1)) s 5 2 dX6_put_1 (S_lt0 hs9) (S_kd0 hs9) (by decide) rfl iw_X6 (by decide) rfl q_fl_X6_18 (S_r2 hs9) ?_
  refine g_iload_n X 1 dX6_put_4 rfl rfl ?_
  refine g_aload_n X 0 dX6_put_5 rfl rfl ?_
  refine g_getI X s 5 0 dX6_put_6 (S_lt0 hs9) (S_kd0 hs9) (by decide) rfl iw_X6 (by decide) rfl q_fl_X6_9 ?_
  refine g_if_ne X (tgt := 17) dX6_put_9 (by decide) (fun c9 => ?_) (fun c9 => ?_)
  · have hf := ie c9 hf
    refine g_aload_n X 0 dX6_put_17 rfl rfl ?_
    refine g_getI X s 5 0 dX6_put_18 (S_lt0 hs9) (S_kd0 hs9) (by decide) rfl iw_X6 (by decide) rfl q_fl_X6_9 ?_
    refine g_iconst X (v := 1) dX6_put_21 (by decide) ?_
    refine g_icmp_ne X (tgt := 30) dX6_put_22 (by decide) (fun c22 => ?_) (fun c22 => ?_)
    · have hf := ie c22 hf
      refine g_iload_n X 2 dX6_put_30 rfl rfl ?_
      obtain ⟨h31, hf⟩ := grd hf
      refine g_iast X (s + 1) (n := 40) dX6_put_31 (S_lt1 hs9) (S_kd1 hs9) (S_ln1 hs9) h31 ?_
      obtain rfl := lf1 hf
      exact hret 32 _ dX6_put_32
    · have hf := it c22 hf
      refine g_iload_n X 2 dX6_put_25 rfl rfl ?_
      refine g_i2s X dX6_put_26 ?_
      refine g_goto X (tgt := 31) dX6_put_27 (by decide) ?_
      obtain ⟨h31, hf⟩ := grd hf
      refine g_iast X (s + 1) (n := 40) dX6_put_31 (S_lt1 hs9) (S_kd1 hs9) (S_ln1 hs9) h31 ?_
      obtain rfl := lf1 hf
      exact hret 32 _ dX6_put_32
  · have hf := it c9 hf
    refine g_iload_n X 2 dX6_put_12 rfl rfl ?_
    refine g_i2b X dX6_put_13 ?_
    refine g_goto X (tgt := 31) dX6_put_14 (by decide) ?_
    obtain ⟨h31, hf⟩ := grd hf
    refine g_iast X (s + 1) (n := 40) dX6_put_31 (S_lt1 hs9) (S_kd1 hs9) (S_ln1 hs9) h31 ?_
    obtain rfl := lf1 hf
    exact hret 32 _ dX6_put_32

def X9_isPerson (p0 : Int32) (m0 : Mem) : Option (Int32 × Mem) :=
  if p0 < 0 then
    some ((0 : Int32), m0)
  else
    if (m0.1 5 0) ≤ p0 then
      some ((0 : Int32), m0)
    else
      some ((1 : Int32), m0)
abbrev rmX9_isPerson : Room := { frames := 0, cells := 0, slots := 0, locals := 0 }

set_option maxRecDepth 100000 in
set_option maxHeartbeats 4000000 in
theorem c_X9_isPerson {l : Launch} {G : GG} {b : Nat} {ad : Nat → Nat} {nt : Nat} {z : Nat → Nat} {p0 : Int32} {m0 : Mem} {r9 : Int32} {m9 : Mem} (hf : X9_isPerson p0 m0 = some (r9, m9)) : MtI l yX9_isPerson cX9_isPerson 2 (some .boolean) rmX9_isPerson G b (sg ad nt z) m0 [.ref (ad 0), .int p0] (pEI r9 (sg ad nt z) m9) := by
  refine mtI_of (by decide) (Nat.le_of_ble_eq_true rfl) .boolean rfl (fun Γ hG X hnm hr => ?_)
  have hret : ∀ (pc : Nat) (lv : List (Nat × Value)), decode cX9_isPerson pc = .ok (.ireturn, 1) → narrow .boolean (.int r9) = .int r9 → Go Γ b (sg ad nt z) 0 0 pc lv [.int r9] m9 := fun pc lv d hn => hr pc lv _ _ _ d ⟨rfl, rfl, rfl⟩ hn
  show Go Γ b (sg ad nt z) 0 0 0 [(0, .ref (ad 0)), (1, .int p0)] [] m0
  refine g_iload_n X 1 dX9_isPerson_0 rfl rfl ?_
  refine g_if_lt X (tgt := 19) dX9_isPerson_1 (by decide) (fun c1 => ?_) (fun c1 => ?_)
  · have hf := it c1 hf
    refine g_iconst X (v := 0) dX9_isPerson_19 (by decide) ?_
    obtain ⟨rfl, rfl⟩ := lf2 hf
    exact hret 20 _ dX9_isPerson_20 rfl
  · have hf := ie c1 hf
    refine g_iload_n X 1 dX9_isPerson_4 rfl rfl ?_
    refine g_aload_n X 0 dX9_isPerson_5 rfl rfl ?_
    refine g_getr X (x := ad 5) 0 8 1 dX9_isPerson_6 (sgN (by decide)) rfl (by decide) rfl iw_X9 (by decide) rfl q_fl_X9_19 rfl ?_
    refine g_getI X 5 0 0 dX9_isPerson_9 (sgN (by decide)) rfl (by decide) rfl iw_X0 (by decide) rfl q_fl_X9_165 ?_
    refine g_icmp_ge X (tgt := 19) dX9_isPerson_12 (by decide) (fun c12 => ?_) (fun c12 => ?_)
    · have hf := it c12 hf
      refine g_iconst X (v := 0) dX9_isPerson_19 (by decide) ?_
      obtain ⟨rfl, rfl⟩ := lf2 hf
      exact hret 20 _ dX9_isPerson_20 rfl
    · have hf := ie c12 hf
      refine g_iconst X (v := 1) dX9_isPerson_15 (by decide) ?_
      refine g_goto X (tgt := 20) dX9_isPerson_16 (by decide) ?_
      obtain ⟨rfl, rfl⟩ := lf2 hf
      exact hret 20 _ dX9_isPerson_20 rfl

theorem kV_X9_94 : wcV RX9 94 RX0 yX0_row cX0_row 2 (some (.array .int)) 1 := ⟨q_ml_X9_94, q_im_yX0_row, q_se_yX0_row, q_in_X0, q_co_yX0_row, by decide +kernel⟩

theorem kV_X9_86 : wcV RX9 86 RX9 yX9_isPerson cX9_isPerson 2 (some .boolean) 1 := ⟨q_ml_X9_86, q_im_yX9_isPerson, q_se_yX9_isPerson, q_in_X9, q_co_yX9_isPerson, by decide +kernel⟩

def X9_set_30 (v1 : Int32) (v2 : Int32) (v3 : Int32) (m0 : Mem) : Option (Int32 × Mem) :=
  if v3 < 0 then
    some ((-2 : Int32), m0)
  else
    if inn v1 5 then
    if v3 ≤ (([999, 9, 7, 255, 255] : List Int32).getD v1.toNatClampNeg 0) then
      if v1 = 0 then
        some (m0.1 5 1, pI m0 5 1 v3)
      else
        bq (X0_row 5 v1 m0) fun r75 m75 =>
        oq r75
          (none)
          (fun w75 =>
          if inn v2 6 then
          if inn v2 6 then
          some (m75.1 w75 v2.toNatClampNeg, pI m75 w75 v2.toNatClampNeg v3)
          else none
          else none)
    else
      some ((-2 : Int32), m0)
    else none
def X9_set (p0 : Int32) (p1 : Int32) (p2 : Int32) (m0 : Mem) : Option (Int32 × Mem) :=
  if p0 < 0 then
    some ((-2 : Int32), m0)
  else
    if p0 < (5 : Int32) then
      if p0 = 0 then
        X9_set_30 p0 p1 p2 m0
      else
        bi (X9_isPerson p1 m0) fun r21 m21 =>
        if r21 = 0 then
          some ((-2 : Int32), m21)
        else
          X9_set_30 p0 p1 p2 m21
    else
      some ((-2 : Int32), m0)
abbrev rmX9_set : Room := { frames := 1, cells := 0, slots := 0, locals := 21 }
set_option maxRecDepth 100000 in
set_option maxHeartbeats 4000000 in
theorem w_X9_set_30 {Γ : Ga} {b : Nat} {ad : Nat → Nat} {nt : Nat} {z : Nat → Nat} {r9 : Int32} {m9 : Mem} (X : Cx Γ b cX9_set 6 RX9 (some .int) rmX9_set) (hret : ∀ (pc : Nat) (lv : List (Nat × Value)), decode cX9_set pc = .ok (.ireturn, 1) → narrow .int (.int r9) = .int r9 → Go Γ b (sg ad nt z) 0 0 pc lv [.int r9] m9) (v1 : Int32) (v2 : Int32) (v3 : Int32) (m0 : Mem) (hf : X9_set_30 v1 v2 v3 m0 = some (r9, m9)) : Go Γ b (sg ad nt z) 0 0 30 [(0, .ref (ad 0)), (1, .int v1), (2, .int v2), (3, .int v3)] [] m0 := by
  refine g_iload_n X 3 dX9_set_30 rfl rfl ?_
  refine g_if_lt X (tgt := 43) dX9_set_31 (by decide) (fun c31 => ?_) (fun c31 => ?_)
  · have hf := it c31 hf
    refine g_bipush X (v := -2) dX9_set_43 (by decide) ?_
    obtain ⟨rfl, rfl⟩ := lf2 hf
    exact hret 45 _ dX9_set_45 rfl
  · have hf := ie c31 hf
    refine g_iload_n X 3 dX9_set_34 rfl rfl ?_
    refine g_getsMS X dX9_set_35 q_fl_X9_82 ?_
    refine g_iload_n X 1 dX9_set_38 rfl rfl ?_
    obtain ⟨h39, hf⟩ := grd hf
    refine g_tldMS X dX9_set_39 h39 ?_
    refine g_icmp_le X (tgt := 46) dX9_set_40 (by decide) (fun c40 => ?_) (fun c40 => ?_)
    · have hf := it c40 hf
      refine g_iload_n X 1 dX9_set_46 rfl rfl ?_
      refine g_if_ne X (tgt := 70) dX9_set_47 (by decide) (fun c47 => ?_) (fun c47 => ?_)
      · have hf := ie c47 hf
        refine g_aload_n X 0 dX9_set_70 rfl rfl ?_
        refine g_getr X (x := ad 5) 0 8 1 dX9_set_71 (sgN (by decide)) rfl (by decide) rfl iw_X9 (by decide) rfl q_fl_X9_19 rfl ?_
        refine g_iload_n X 1 dX9_set_74 rfl rfl ?_
        obtain ⟨r75, m75, h75, hf⟩ := bq_i hf
        have ok75 := rowOk (by unfold isF; decide) h75
        cases r75 with
        | none =>
          cases hf
        | some w75 =>
          have fw75 : isA w75 := ok75 _ rfl
          refine g_eVQ X 5 0 [.int v1] kV_X9_94 (c_X0_row (by unfold isF; decide) h75) dX9_set_75 rfl rfl (sgN (by decide)) rfl (by decide) rfl rfl ⟨(Nat.le_of_ble_eq_true rfl), (Nat.le_of_ble_eq_true rfl)⟩ ⟨rfl, rfl⟩ ⟨(Nat.zero_le _), (Nat.zero_le _)⟩ (Nat.le_of_ble_eq_true rfl) ?_
          refine g_astore X (lv' := [(4, .ref (ad w75)), (0, .ref (ad 0)), (1, .int v1), (2, .int v2), (3, .int v3)]) dX9_set_78 (by decide) rfl ?_
          refine g_aload X 0 dX9_set_80 rfl ?_
          refine g_iload_n X 3 dX9_set_82 rfl rfl ?_
          obtain ⟨h83, hf⟩ := grd hf
          refine g_iald X w75 (n := 6) dX9_set_83 (A_lt0 fw75) (A_kd0 fw75) (A_ln0 fw75) h83 ?_
          refine g_istore X (lv' := [(5, .int (m75.1 w75 v2.toNatClampNeg)), (4, .ref (ad w75)), (0, .ref (ad 0)), (1, .int v1), (2, .int v2), (3, .int v3)]) dX9_set_84 (by decide) rfl ?_
          refine g_aload X 1 dX9_set_86 rfl ?_
          refine g_iload_n X 4 dX9_set_88 rfl rfl ?_
          refine g_iload_n X 5 dX9_set_89 rfl rfl ?_
          obtain ⟨h90, hf⟩ := grd hf
          refine g_iast X w75 (n := 6) dX9_set_90 (A_lt0 fw75) (A_kd0 fw75) (A_ln0 fw75) h90 ?_
          refine g_iload X 0 dX9_set_91 rfl ?_
          obtain ⟨rfl, rfl⟩ := lf2 hf
          exact hret 93 _ dX9_set_93 rfl
      · have hf := it c47 hf
        refine g_aload_n X 0 dX9_set_50 rfl rfl ?_
        refine g_getr X (x := ad 5) 0 8 1 dX9_set_51 (sgN (by decide)) rfl (by decide) rfl iw_X9 (by decide) rfl q_fl_X9_19 rfl ?_
        refine g_getI X 5 0 1 dX9_set_54 (sgN (by decide)) rfl (by decide) rfl iw_X0 (by decide) rfl q_fl_X9_90 ?_
        refine g_istore X (lv' := [(4, .int (m0.1 5 1)), (0, .ref (ad 0)), (1, .int v1), (2, .int v2), (3, .int v3)]) dX9_set_57 (by decide) rfl ?_
        refine g_aload_n X 1 dX9_set_59 rfl rfl ?_
        refine g_getr X (x := ad 5) 0 8 1 dX9_set_60 (sgN (by decide)) rfl (by decide) rfl iw_X9 (by decide) rfl q_fl_X9_19 rfl ?_
        refine g_iload_n X 4 dX9_set_63 rfl rfl ?_
        refine g_putI X (tyf := tyX0) 5 0 1 dX9_set_64 (sgN (by decide)) rfl (by decide) rfl iw_X0 (by decide) rfl q_fl_X9_90 tyX0_ok nmX0 rfl rfl rfl ?_
        refine g_iload X 0 dX9_set_67 rfl ?_
        obtain ⟨rfl, rfl⟩ := lf2 hf
        exact hret 69 _ dX9_set_69 rfl
    · have hf := ie c40 hf
      refine g_bipush X (v := -2) dX9_set_43 (by decide) ?_
      obtain ⟨rfl, rfl⟩ := lf2 hf
      exact hret 45 _ dX9_set_45 rfl
set_option maxRecDepth 100000 in
set_option maxHeartbeats 4000000 in
theorem c_X9_set {l : Launch} {G : GG} {b : Nat} {ad : Nat → Nat} {nt : Nat} {z : Nat → Nat} {p0 : Int32} {p1 : Int32} {p2 : Int32} {m0 : Mem} {r9 : Int32} {m9 : Mem} (hf : X9_set p0 p1 p2 m0 = some (r9, m9)) : MtI l yX9_set cX9_set 6 (some .int) rmX9_set G b (sg ad nt z) m0 [.ref (ad 0), .int p0, .int p1, .int p2] (pEI r9 (sg ad nt z) m9) := by
  refine mtI_of (by decide) (Nat.le_of_ble_eq_true rfl) .int rfl (fun Γ hG X hnm hr => ?_)
  have hret : ∀ (pc : Nat) (lv : List (Nat × Value)), decode cX9_set pc = .ok (.ireturn, 1) → narrow .int (.int r9) = .int r9 → Go Γ b (sg ad nt z) 0 0 pc lv [.int r9] m9 := fun pc lv d hn => hr pc lv _ _ _ d ⟨rfl, rfl, rfl⟩ hn
  show Go Γ b (sg ad nt z) 0 0 0 [(0, .ref (ad 0)), (1, .int p0), (2, .int p1), (3, .int p2)] [] m0
  refine g_iload_n X 1 dX9_set_0 rfl rfl ?_
  refine g_if_lt X (tgt := 12) dX9_set_1 (by decide) (fun c1 => ?_) (fun c1 => ?_)
  · have hf := it c1 hf
    refine g_bipush X (v := -2) dX9_set_12 (by decide) ?_
    obtain ⟨rfl, rfl⟩ := lf2 hf
    exact hret 14 _ dX9_set_14 rfl
  · have hf := ie c1 hf
    refine g_iload_n X 1 dX9_set_4 rfl rfl ?_
    refine g_getsMS X dX9_set_5 q_fl_X9_82 ?_
    refine g_tlenMS X (v := 5) dX9_set_8 (by decide) ?_
    refine g_icmp_lt X (tgt := 15) dX9_set_9 (by decide) (fun c9 => ?_) (fun c9 => ?_)
    · have hf := it c9 hf
      refine g_iload_n X 1 dX9_set_15 rfl rfl ?_
      refine g_if_eq X (tgt := 30) dX9_set_16 (by decide) (fun c16 => ?_) (fun c16 => ?_)
      · have hf := it c16 hf
        exact w_X9_set_30 X hret p0 p1 p2 m0 hf
      · have hf := ie c16 hf
        refine g_aload_n X 0 dX9_set_19 rfl rfl ?_
        refine g_iload_n X 2 dX9_set_20 rfl rfl ?_
        obtain ⟨r21, m21, h21, hf⟩ := bi_i hf
        refine g_eVI X 0 8 [.int p1] kV_X9_86 (c_X9_isPerson h21) dX9_set_21 rfl rfl (sgN (by decide)) rfl (by decide) rfl rfl ⟨(Nat.le_of_ble_eq_true rfl), (Nat.le_of_ble_eq_true rfl)⟩ ⟨rfl, rfl⟩ ⟨(Nat.zero_le _), (Nat.zero_le _)⟩ (Nat.le_of_ble_eq_true rfl) ?_
        refine g_if_ne X (tgt := 30) dX9_set_24 (by decide) (fun c24 => ?_) (fun c24 => ?_)
        · have hf := ie c24 hf
          exact w_X9_set_30 X hret p0 p1 p2 m21 hf
        · have hf := it c24 hf
          refine g_bipush X (v := -2) dX9_set_27 (by decide) ?_
          obtain ⟨rfl, rfl⟩ := lf2 hf
          exact hret 29 _ dX9_set_29 rfl
    · have hf := ie c9 hf
      refine g_bipush X (v := -2) dX9_set_12 (by decide) ?_
      obtain ⟨rfl, rfl⟩ := lf2 hf
      exact hret 14 _ dX9_set_14 rfl
