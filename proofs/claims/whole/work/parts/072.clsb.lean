theorem kV_X5_44 : wcV RX5 44 RX5 yX5_keyOf cX5_keyOf 6 (some .long) 3 := ⟨q_ml_X5_44, q_im_yX5_keyOf, q_se_yX5_keyOf, q_in_X5, q_co_yX5_keyOf, by decide +kernel⟩

theorem kV_X5_73 : wcV RX5 73 RX4 yX4_farFrom cX4_farFrom 3 (some .int) 2 := ⟨q_ml_X5_73, q_im_yX4_farFrom, q_se_yX4_farFrom, q_in_X4, q_co_yX4_farFrom, by decide +kernel⟩

theorem kV_X5_82 : wcV RX5 82 RX7 yX7_value cX7_value 9 (some .int) 3 := ⟨q_ml_X5_82, q_im_yX7_value, q_se_yX7_value, q_in_X7, q_co_yX7_value, by decide +kernel⟩

def X5_says_222 (nt : Nat) (z : Nat → Nat) (f : Nat) (xv6 : Nat) (v9 : Int32) (s0 : Int32) (s1 : Int32) (xs2 : Nat) (m0 : Mem) : Option (Int32 × Mem) :=
  if inn s1 24 then
  if inn v9 24 then
  some ((pI (pI m0 (xs2 + 1) s1.toNatClampNeg s0) xv6 1 (((pI m0 (xs2 + 1) s1.toNatClampNeg s0).1 xv6 1) ||| ((1 : Int32) <<< (v9 &&& 31)))).1 (xv6 + 1) v9.toNatClampNeg, pI (pI m0 (xs2 + 1) s1.toNatClampNeg s0) xv6 1 (((pI m0 (xs2 + 1) s1.toNatClampNeg s0).1 xv6 1) ||| ((1 : Int32) <<< (v9 &&& 31))))
  else none
  else none
def X5_says_168 (nt : Nat) (z : Nat → Nat) (f : Nat) (v3 : Int32) (xv5 : Nat) (xv6 : Nat) (v9 : Int32) (s0 : Int32) (s1 : Int32) (m0 : Mem) : Option (Int32 × Mem) :=
  if inn s1 6 then
  if inn (5 : Int32) 6 then
  bi (X7_value nt z xv5 v3 (pI (pI m0 36 s1.toNatClampNeg s0) 36 (5 : Int32).toNatClampNeg ((pI m0 36 s1.toNatClampNeg s0).1 f 1))) fun r190 m190 =>
  if v3 = 0 then
    X5_says_222 nt z f xv6 v9 r190 v9 xv6 m190
  else
    X5_says_222 nt z f xv6 v9 (if (0 : Int32) < (if r190 < (99 : Int32) then r190 else (99 : Int32)) then (if r190 < (99 : Int32) then r190 else (99 : Int32)) else (0 : Int32)) v9 xv6 m190
  else none
  else none
def X5_says_60 (nt : Nat) (z : Nat → Nat) (f : Nat) (v2 : Int32) (v3 : Int32) (v4 : Int32) (xv5 : Nat) (xv6 : Nat) (m0 : Mem) : Option (Int32 × Mem) :=
  if (((m0.1 xv6 1) >>> (((v3 * (8 : Int32)) + v4) &&& 31)) &&& (1 : Int32)) = 0 then
    if inn (0 : Int32) 6 then
    if inn v2 6 then
    if inn (1 : Int32) 6 then
    if inn v2 6 then
    bi (J6_bitCount_0f7a4 ((pI (pI m0 36 (0 : Int32).toNatClampNeg v4) 36 (1 : Int32).toNatClampNeg ((pI m0 36 (0 : Int32).toNatClampNeg v4).1 (f + 2) v2.toNatClampNeg)).1 (f + 4) v2.toNatClampNeg) (pI (pI m0 36 (0 : Int32).toNatClampNeg v4) 36 (1 : Int32).toNatClampNeg ((pI m0 36 (0 : Int32).toNatClampNeg v4).1 (f + 2) v2.toNatClampNeg))) fun r122 m122 =>
    if inn (2 : Int32) 6 then
    if inn v2 6 then
    bi (X4_farFrom ((pI m122 36 (2 : Int32).toNatClampNeg r122).1 (f + 3) v2.toNatClampNeg) v4 (pI m122 36 (2 : Int32).toNatClampNeg r122)) fun r143 m143 =>
    if inn (3 : Int32) 6 then
    if inn v2 6 then
    if ((pI m143 36 (3 : Int32).toNatClampNeg r143).1 (f + 3) v2.toNatClampNeg) = v4 then
      X5_says_168 nt z f v3 xv5 xv6 ((v3 * (8 : Int32)) + v4) (1 : Int32) (4 : Int32) (pI m143 36 (3 : Int32).toNatClampNeg r143)
    else
      X5_says_168 nt z f v3 xv5 xv6 ((v3 * (8 : Int32)) + v4) (0 : Int32) (4 : Int32) (pI m143 36 (3 : Int32).toNatClampNeg r143)
    else none
    else none
    else none
    else none
    else none
    else none
    else none
    else none
  else
    if inn ((v3 * (8 : Int32)) + v4) 24 then
    some (m0.1 (xv6 + 1) ((v3 * (8 : Int32)) + v4).toNatClampNeg, m0)
    else none
def X5_says (nt : Nat) (z : Nat → Nat) (f : Nat) (p1 : Int32) (p2 : Int32) (p3 : Int32) (m0 : Mem) : Option (Int32 × Mem) :=
  if inn (m0.1 f 2) 6 then
  if (m0.1 f 2).toNatClampNeg ≤ nt then
    wi (tid (m0.1 f 2).toNatClampNeg) fun w8 =>
    if inn p1 6 then
    wi (38 + 2 * p1.toNatClampNeg) fun w23 =>
    bl (X5_keyOf f w8 p1 m0) fun r31 m31 =>
    if (lg_cmp (m31.2 w23 0) r31) = 0 then
      X5_says_60 nt z f p1 p2 p3 w8 w23 m31
    else
      X5_says_60 nt z f p1 p2 p3 w8 w23 (pI (pJ m31 w23 0 r31) w23 1 (0 : Int32))
    else none
  else
    some ((0 : Int32), m0)
  else none
abbrev rmX5_says : Room := { frames := 2, cells := 0, slots := 0, locals := 60 }
set_option maxRecDepth 100000 in
set_option maxHeartbeats 4000000 in
theorem w_X5_says_222 {Γ : Ga} {b : Nat} {ad : Nat → Nat} {nt : Nat} {z : Nat → Nat} {f : Nat} {r9 : Int32} {m9 : Mem} (hf9 : isF f) (X : Cx Γ b cX5_says 11 RX5 (some .int) rmX5_says) (hret : ∀ (pc : Nat) (lv : List (Nat × Value)), decode cX5_says pc = .ok (.ireturn, 1) → narrow .int (.int r9) = .int r9 → Go Γ b (sg ad nt z) 0 0 pc lv [.int r9] m9) (xv6 : Nat) (v9 : Int32) (s0 : Int32) (s1 : Int32) (xs2 : Nat) (hxv6 : isV xv6) (hxs2 : isV xs2) (m0 : Mem) (hf : X5_says_222 nt z f xv6 v9 s0 s1 xs2 m0 = some (r9, m9)) : Go Γ b (sg ad nt z) 0 0 222 [(6, .ref (ad xv6)), (9, .int v9)] [.int s0, .int s1, .ref (ad (xs2 + 1))] m0 := by
  obtain ⟨h222, hf⟩ := grd hf
  refine g_iast X (xs2 + 1) (n := 24) dX5_says_222 (V_lt1 hxs2) (V_kd1 hxs2) (V_ln1 hxs2) h222 ?_
  refine g_aload X 0 dX5_says_223 rfl ?_
  refine g_dup X dX5_says_225 rfl ?_
  refine g_getI X xv6 7 1 dX5_says_226 (V_lt0 hxv6) (V_kd0 hxv6) (by decide) rfl iw_X8 (by decide) rfl q_fl_X5_52 ?_
  refine g_iconst X (v := 1) dX5_says_229 (by decide) ?_
  refine g_iload X 1 dX5_says_230 rfl ?_
  refine g_ishl X dX5_says_232 ?_
  refine g_ior X dX5_says_233 ?_
  refine g_putI X (tyf := tyX8) xv6 7 1 dX5_says_234 (V_lt0 hxv6) (V_kd0 hxv6) (by decide) rfl iw_X8 (by decide) rfl q_fl_X5_52 tyX8_ok nmX8 rfl rfl rfl ?_
  refine g_aload X 0 dX5_says_237 rfl ?_
  refine g_getr X (x := ad (xv6 + 1)) xv6 7 2 dX5_says_239 (V_lt0 hxv6) (V_kd0 hxv6) (by decide) rfl iw_X8 (by decide) rfl q_fl_X5_55 (V_r2 hxv6) ?_
  refine g_iload X 1 dX5_says_242 rfl ?_
  obtain ⟨h244, hf⟩ := grd hf
  refine g_iald X (xv6 + 1) (n := 24) dX5_says_244 (V_lt1 hxv6) (V_kd1 hxv6) (V_ln1 hxv6) h244 ?_
  obtain ⟨rfl, rfl⟩ := lf2 hf
  exact hret 245 _ dX5_says_245 rfl
set_option maxRecDepth 100000 in
set_option maxHeartbeats 4000000 in
theorem w_X5_says_168 {Γ : Ga} {b : Nat} {ad : Nat → Nat} {nt : Nat} {z : Nat → Nat} {f : Nat} {r9 : Int32} {m9 : Mem} (hf9 : isF f) (X : Cx Γ b cX5_says 11 RX5 (some .int) rmX5_says) (hret : ∀ (pc : Nat) (lv : List (Nat × Value)), decode cX5_says pc = .ok (.ireturn, 1) → narrow .int (.int r9) = .int r9 → Go Γ b (sg ad nt z) 0 0 pc lv [.int r9] m9) (v3 : Int32) (xv5 : Nat) (xv6 : Nat) (v9 : Int32) (s0 : Int32) (s1 : Int32) (hxv5 : isT nt xv5) (hxv6 : isV xv6) (m0 : Mem) (hf : X5_says_168 nt z f v3 xv5 xv6 v9 s0 s1 m0 = some (r9, m9)) : Go Γ b (sg ad nt z) 0 0 168 [(0, .ref (ad 33)), (1, .ref (ad f)), (3, .int v3), (5, .ref (ad xv5)), (6, .ref (ad xv6)), (9, .int v9)] [.int s0, .int s1, .ref (ad 36)] m0 := by
  obtain ⟨h168, hf⟩ := grd hf
  refine g_iast X 36 (n := 6) dX5_says_168 (sgN (by decide)) rfl rfl h168 ?_
  refine g_aload_n X 0 dX5_says_169 rfl rfl ?_
  refine g_getr X (x := ad 36) 33 4 4 dX5_says_170 (sgN (by decide)) rfl (by decide) rfl iw_X5 (by decide) rfl q_fl_X5_27 rfl ?_
  refine g_iconst X (v := 5) dX5_says_173 (by decide) ?_
  refine g_aload_n X 1 dX5_says_174 rfl rfl ?_
  refine g_getI X f 0 1 dX5_says_175 (F_lt0 hf9) (F_kd0 hf9) (by decide) rfl iw_X0 (by decide) rfl q_fl_X5_79 ?_
  obtain ⟨h178, hf⟩ := grd hf
  refine g_iast X 36 (n := 6) dX5_says_178 (sgN (by decide)) rfl rfl h178 ?_
  refine g_aload X 3 dX5_says_179 rfl ?_
  refine g_iload_n X 2 dX5_says_181 rfl rfl ?_
  refine g_aload_n X 0 dX5_says_182 rfl rfl ?_
  refine g_getr X (x := ad 36) 33 4 4 dX5_says_183 (sgN (by decide)) rfl (by decide) rfl iw_X5 (by decide) rfl q_fl_X5_27 rfl ?_
  refine g_aload_n X 0 dX5_says_186 rfl rfl ?_
  refine g_getr X (x := ad 37) 33 4 5 dX5_says_187 (sgN (by decide)) rfl (by decide) rfl iw_X5 (by decide) rfl q_fl_X5_31 rfl ?_
  obtain ⟨r190, m190, h190, hf⟩ := bi_i hf
  refine g_eVI X xv5 6 [.int v3, .ref (ad 36), .ref (ad 37)] kV_X5_82 (c_X7_value hxv5 h190) dX5_says_190 rfl rfl (T_lt0 hxv5) (T_kd0 hxv5) (by decide) rfl rfl ⟨(Nat.le_of_ble_eq_true rfl), (Nat.le_of_ble_eq_true rfl)⟩ ⟨rfl, rfl⟩ ⟨(Nat.zero_le _), (Nat.zero_le _)⟩ (Nat.le_of_ble_eq_true rfl) ?_
  refine g_istore X (lv' := [(10, .int r190), (0, .ref (ad 33)), (1, .ref (ad f)), (3, .int v3), (5, .ref (ad xv5)), (6, .ref (ad xv6)), (9, .int v9)]) dX5_says_193 (by decide) rfl ?_
  refine g_aload X 5 dX5_says_195 rfl ?_
  refine g_getr X (x := ad (xv6 + 1)) xv6 7 2 dX5_says_197 (V_lt0 hxv6) (V_kd0 hxv6) (by decide) rfl iw_X8 (by decide) rfl q_fl_X5_55 (V_r2 hxv6) ?_
  refine g_iload X 6 dX5_says_200 rfl ?_
  refine g_iload_n X 3 dX5_says_202 rfl rfl ?_
  refine g_if_ne X (tgt := 211) dX5_says_203 (by decide) (fun c203 => ?_) (fun c203 => ?_)
  · have hf := ie c203 hf
    refine g_iconst X (v := 0) dX5_says_211 (by decide) ?_
    refine g_bipush X (v := 99) dX5_says_212 (by decide) ?_
    refine g_iload X 0 dX5_says_214 rfl ?_
    refine g_mmin X dX5_says_216 q_ml_X5_86 q_st_yJ9_min_7cf53 q_in_J9 q_co_yJ9_min_7cf53 (Nat.le_of_ble_eq_true rfl) (Nat.le_of_ble_eq_true rfl) ⟨Nat.zero_le _, Nat.zero_le _⟩ ?_
    refine g_mmax X dX5_says_219 q_ml_X5_91 q_st_yJ9_max_7cf53 q_in_J9 q_co_yJ9_max_7cf53 (Nat.le_of_ble_eq_true rfl) (Nat.le_of_ble_eq_true rfl) ⟨Nat.zero_le _, Nat.zero_le _⟩ ?_
    refine g_pick [5, 6] (lv' := [(6, .ref (ad xv6)), (9, .int v9)]) rfl ?_
    exact w_X5_says_222 hf9 X hret xv6 v9 (if (0 : Int32) < (if r190 < (99 : Int32) then r190 else (99 : Int32)) then (if r190 < (99 : Int32) then r190 else (99 : Int32)) else (0 : Int32)) v9 xv6 hxv6 hxv6 m190 hf
  · have hf := it c203 hf
    refine g_iload X 0 dX5_says_206 rfl ?_
    refine g_goto X (tgt := 222) dX5_says_208 (by decide) ?_
    refine g_pick [5, 6] (lv' := [(6, .ref (ad xv6)), (9, .int v9)]) rfl ?_
    exact w_X5_says_222 hf9 X hret xv6 v9 r190 v9 xv6 hxv6 hxv6 m190 hf
set_option maxRecDepth 100000 in
set_option maxHeartbeats 4000000 in
theorem w_X5_says_60 {Γ : Ga} {b : Nat} {ad : Nat → Nat} {nt : Nat} {z : Nat → Nat} {f : Nat} {r9 : Int32} {m9 : Mem} (hf9 : isF f) (X : Cx Γ b cX5_says 11 RX5 (some .int) rmX5_says) (hret : ∀ (pc : Nat) (lv : List (Nat × Value)), decode cX5_says pc = .ok (.ireturn, 1) → narrow .int (.int r9) = .int r9 → Go Γ b (sg ad nt z) 0 0 pc lv [.int r9] m9) (v2 : Int32) (v3 : Int32) (v4 : Int32) (xv5 : Nat) (xv6 : Nat) (hxv5 : isT nt xv5) (hxv6 : isV xv6) (m0 : Mem) (hf : X5_says_60 nt z f v2 v3 v4 xv5 xv6 m0 = some (r9, m9)) : Go Γ b (sg ad nt z) 0 0 60 [(0, .ref (ad 33)), (1, .ref (ad f)), (2, .int v2), (3, .int v3), (4, .int v4), (5, .ref (ad xv5)), (6, .ref (ad xv6))] [] m0 := by
  refine g_iload_n X 3 dX5_says_60 rfl rfl ?_
  refine g_bipush X (v := 8) dX5_says_61 (by decide) ?_
  refine g_imul X dX5_says_63 ?_
  refine g_iload X 4 dX5_says_64 rfl ?_
  refine g_iadd X dX5_says_66 ?_
  refine g_istore X (lv' := [(9, .int ((v3 * (8 : Int32)) + v4)), (0, .ref (ad 33)), (1, .ref (ad f)), (2, .int v2), (3, .int v3), (4, .int v4), (5, .ref (ad xv5)), (6, .ref (ad xv6))]) dX5_says_67 (by decide) rfl ?_
  refine g_aload X 7 dX5_says_69 rfl ?_
  refine g_getI X xv6 7 1 dX5_says_71 (V_lt0 hxv6) (V_kd0 hxv6) (by decide) rfl iw_X8 (by decide) rfl q_fl_X5_52 ?_
  refine g_iload X 0 dX5_says_74 rfl ?_
  refine g_ishr X dX5_says_76 ?_
  refine g_iconst X (v := 1) dX5_says_77 (by decide) ?_
  refine g_iand X dX5_says_78 ?_
  refine g_if_eq X (tgt := 91) dX5_says_79 (by decide) (fun c79 => ?_) (fun c79 => ?_)
  · have hf := it c79 hf
    refine g_aload_n X 1 dX5_says_91 rfl rfl ?_
    refine g_getr X (x := ad 36) 33 4 4 dX5_says_92 (sgN (by decide)) rfl (by decide) rfl iw_X5 (by decide) rfl q_fl_X5_27 rfl ?_
    refine g_iconst X (v := 0) dX5_says_95 (by decide) ?_
    refine g_iload X 5 dX5_says_96 rfl ?_
    obtain ⟨h98, hf⟩ := grd hf
    refine g_iast X 36 (n := 6) dX5_says_98 (sgN (by decide)) rfl rfl h98 ?_
    refine g_aload_n X 1 dX5_says_99 rfl rfl ?_
    refine g_getr X (x := ad 36) 33 4 4 dX5_says_100 (sgN (by decide)) rfl (by decide) rfl iw_X5 (by decide) rfl q_fl_X5_27 rfl ?_
    refine g_iconst X (v := 1) dX5_says_103 (by decide) ?_
    refine g_aload_n X 2 dX5_says_104 rfl rfl ?_
    refine g_getr X (x := ad (f + 2)) f 0 4 dX5_says_105 (F_lt0 hf9) (F_kd0 hf9) (by decide) rfl iw_X0 (by decide) rfl q_fl_X5_58 (F_r4 hf9) ?_
    refine g_iload_n X 3 dX5_says_108 rfl rfl ?_
    obtain ⟨h109, hf⟩ := grd hf
    refine g_iald X (f + 2) (n := 6) dX5_says_109 (F_lt2 hf9) (F_kd2 hf9) (F_ln2 hf9) h109 ?_
    obtain ⟨h110, hf⟩ := grd hf
    refine g_iast X 36 (n := 6) dX5_says_110 (sgN (by decide)) rfl rfl h110 ?_
    refine g_aload_n X 1 dX5_says_111 rfl rfl ?_
    refine g_getr X (x := ad 36) 33 4 4 dX5_says_112 (sgN (by decide)) rfl (by decide) rfl iw_X5 (by decide) rfl q_fl_X5_27 rfl ?_
    refine g_iconst X (v := 2) dX5_says_115 (by decide) ?_
    refine g_aload_n X 2 dX5_says_116 rfl rfl ?_
    refine g_getr X (x := ad (f + 4)) f 0 6 dX5_says_117 (F_lt0 hf9) (F_kd0 hf9) (by decide) rfl iw_X0 (by decide) rfl q_fl_X5_61 (F_r6 hf9) ?_
    refine g_iload_n X 3 dX5_says_120 rfl rfl ?_
    obtain ⟨h121, hf⟩ := grd hf
    refine g_iald X (f + 4) (n := 6) dX5_says_121 (F_lt4 hf9) (F_kd4 hf9) (F_ln4 hf9) h121 ?_
    obtain ⟨r122, m122, h122, hf⟩ := bi_i hf
    refine g_eSI X [.int ((pI (pI m0 36 (0 : Int32).toNatClampNeg v4) 36 (1 : Int32).toNatClampNeg ((pI m0 36 (0 : Int32).toNatClampNeg v4).1 (f + 2) v2.toNatClampNeg)).1 (f + 4) v2.toNatClampNeg)] kS_X5_64 (c_J6_bitCount_0f7a4 h122) dX5_says_122 rfl rfl ⟨(Nat.le_of_ble_eq_true rfl), (Nat.le_of_ble_eq_true rfl)⟩ ⟨rfl, rfl⟩ ⟨(Nat.zero_le _), (Nat.zero_le _)⟩ (Nat.le_of_ble_eq_true rfl) ?_
    obtain ⟨h125, hf⟩ := grd hf
    refine g_iast X 36 (n := 6) dX5_says_125 (sgN (by decide)) rfl rfl h125 ?_
    refine g_aload_n X 1 dX5_says_126 rfl rfl ?_
    refine g_getr X (x := ad 36) 33 4 4 dX5_says_127 (sgN (by decide)) rfl (by decide) rfl iw_X5 (by decide) rfl q_fl_X5_27 rfl ?_
    refine g_iconst X (v := 3) dX5_says_130 (by decide) ?_
    refine g_aload_n X 1 dX5_says_131 rfl rfl ?_
    refine g_getr X (x := ad 1) 33 4 0 dX5_says_132 (sgN (by decide)) rfl (by decide) rfl iw_X5 (by decide) rfl q_fl_X5_34 rfl ?_
    refine g_aload_n X 2 dX5_says_135 rfl rfl ?_
    refine g_getr X (x := ad (f + 3)) f 0 5 dX5_says_136 (F_lt0 hf9) (F_kd0 hf9) (by decide) rfl iw_X0 (by decide) rfl q_fl_X5_70 (F_r5 hf9) ?_
    refine g_iload_n X 3 dX5_says_139 rfl rfl ?_
    obtain ⟨h140, hf⟩ := grd hf
    refine g_iald X (f + 3) (n := 6) dX5_says_140 (F_lt3 hf9) (F_kd3 hf9) (F_ln3 hf9) h140 ?_
    refine g_iload X 5 dX5_says_141 rfl ?_
    obtain ⟨r143, m143, h143, hf⟩ := bi_i hf
    refine g_eVI X 1 3 [.int ((pI m122 36 (2 : Int32).toNatClampNeg r122).1 (f + 3) v2.toNatClampNeg), .int v4] kV_X5_73 (c_X4_farFrom h143) dX5_says_143 rfl rfl (sgN (by decide)) rfl (by decide) rfl rfl ⟨(Nat.le_of_ble_eq_true rfl), (Nat.le_of_ble_eq_true rfl)⟩ ⟨rfl, rfl⟩ ⟨(Nat.zero_le _), (Nat.zero_le _)⟩ (Nat.le_of_ble_eq_true rfl) ?_
    obtain ⟨h146, hf⟩ := grd hf
    refine g_iast X 36 (n := 6) dX5_says_146 (sgN (by decide)) rfl rfl h146 ?_
    refine g_aload_n X 1 dX5_says_147 rfl rfl ?_
    refine g_getr X (x := ad 36) 33 4 4 dX5_says_148 (sgN (by decide)) rfl (by decide) rfl iw_X5 (by decide) rfl q_fl_X5_27 rfl ?_
    refine g_iconst X (v := 4) dX5_says_151 (by decide) ?_
    refine g_aload_n X 2 dX5_says_152 rfl rfl ?_
    refine g_getr X (x := ad (f + 3)) f 0 5 dX5_says_153 (F_lt0 hf9) (F_kd0 hf9) (by decide) rfl iw_X0 (by decide) rfl q_fl_X5_70 (F_r5 hf9) ?_
    refine g_iload_n X 3 dX5_says_156 rfl rfl ?_
    obtain ⟨h157, hf⟩ := grd hf
    refine g_iald X (f + 3) (n := 6) dX5_says_157 (F_lt3 hf9) (F_kd3 hf9) (F_ln3 hf9) h157 ?_
    refine g_iload X 5 dX5_says_158 rfl ?_
    refine g_icmp_ne X (tgt := 167) dX5_says_160 (by decide) (fun c160 => ?_) (fun c160 => ?_)
    · have hf := ie c160 hf
      refine g_iconst X (v := 0) dX5_says_167 (by decide) ?_
      refine g_pick [1, 2, 4, 6, 7, 0] (lv' := [(0, .ref (ad 33)), (1, .ref (ad f)), (3, .int v3), (5, .ref (ad xv5)), (6, .ref (ad xv6)), (9, .int ((v3 * (8 : Int32)) + v4))]) rfl ?_
      exact w_X5_says_168 hf9 X hret v3 xv5 xv6 ((v3 * (8 : Int32)) + v4) (0 : Int32) (4 : Int32) hxv5 hxv6 (pI m143 36 (3 : Int32).toNatClampNeg r143) hf
    · have hf := it c160 hf
      refine g_iconst X (v := 1) dX5_says_163 (by decide) ?_
      refine g_goto X (tgt := 168) dX5_says_164 (by decide) ?_
      refine g_pick [1, 2, 4, 6, 7, 0] (lv' := [(0, .ref (ad 33)), (1, .ref (ad f)), (3, .int v3), (5, .ref (ad xv5)), (6, .ref (ad xv6)), (9, .int ((v3 * (8 : Int32)) + v4))]) rfl ?_
      exact w_X5_says_168 hf9 X hret v3 xv5 xv6 ((v3 * (8 : Int32)) + v4) (1 : Int32) (4 : Int32) hxv5 hxv6 (pI m143 36 (3 : Int32).toNatClampNeg r143) hf
  · have hf := ie c79 hf
    refine g_aload X 7 dX5_says_82 rfl ?_
    refine g_getr X (x := ad (xv6 + 1)) xv6 7 2 dX5_says_84 (V_lt0 hxv6) (V_kd0 hxv6) (by decide) rfl iw_X8 (by decide) rfl q_fl_X5_55 (V_r2 hxv6) ?_
    refine g_iload X 0 dX5_says_87 rfl ?_
    obtain ⟨h89, hf⟩ := grd hf
    refine g_iald X (xv6 + 1) (n := 24) dX5_says_89 (V_lt1 hxv6) (V_kd1 hxv6) (V_ln1 hxv6) h89 ?_
    obtain ⟨rfl, rfl⟩ := lf2 hf
    exact hret 90 _ dX5_says_90 rfl
set_option maxRecDepth 100000 in
set_option maxHeartbeats 4000000 in
theorem c_X5_says {l : Launch} {G : GG} {b : Nat} {ad : Nat → Nat} {nt : Nat} {z : Nat → Nat} {f : Nat} {p1 : Int32} {p2 : Int32} {p3 : Int32} {m0 : Mem} {r9 : Int32} {m9 : Mem} (hf9 : isF f) (hf : X5_says nt z f p1 p2 p3 m0 = some (r9, m9)) : MtI l yX5_says cX5_says 11 (some .int) rmX5_says G b (sg ad nt z) m0 [.ref (ad 33), .ref (ad f), .int p1, .int p2, .int p3] (pEI r9 (sg ad nt z) m9) := by
  refine mtI_of (by decide) (Nat.le_of_ble_eq_true rfl) .int rfl (fun Γ hG X hnm hr => ?_)
  have hret : ∀ (pc : Nat) (lv : List (Nat × Value)), decode cX5_says pc = .ok (.ireturn, 1) → narrow .int (.int r9) = .int r9 → Go Γ b (sg ad nt z) 0 0 pc lv [.int r9] m9 := fun pc lv d hn => hr pc lv _ _ _ d ⟨rfl, rfl, rfl⟩ hn
  show Go Γ b (sg ad nt z) 0 0 0 [(0, .ref (ad 33)), (1, .ref (ad f)), (2, .int p1), (3, .int p2), (4, .int p3)] [] m0
  refine g_aload_n X 0 dX5_says_0 rfl rfl ?_
  refine g_getr X (x := ad 34) 33 4 1 dX5_says_1 (sgN (by decide)) rfl (by decide) rfl iw_X5 (by decide) rfl q_fl_X5_11 rfl ?_
  refine g_aload_n X 1 dX5_says_4 rfl rfl ?_
  refine g_getI X f 0 2 dX5_says_5 (F_lt0 hf9) (F_kd0 hf9) (by decide) rfl iw_X0 (by decide) rfl q_fl_X5_39 ?_
  obtain ⟨h8, hf⟩ := grd hf
  by_cases c8 : (m0.1 f 2).toNatClampNeg ≤ nt
  · have hf := it c8 hf
    obtain ⟨w8, ew8, hf⟩ := wi_i hf
    have fw8 : isT nt w8 := ⟨_, c8, ew8⟩
    refine g_aaldr13 X 34 (n := 6) (x := ad w8) dX5_says_8 (sgN (by decide)) rfl rfl h8 (by rw [ew8]; exact T_at c8) ?_
    refine g_astore X (lv' := [(5, .ref (ad w8)), (0, .ref (ad 33)), (1, .ref (ad f)), (2, .int p1), (3, .int p2), (4, .int p3)]) dX5_says_9 (by decide) rfl ?_
    refine g_aload X 0 dX5_says_11 rfl ?_
    refine g_ifnonnull X (tgt := 18) dX5_says_13 (by decide) ?_
    refine g_aload_n X 1 dX5_says_18 rfl rfl ?_
    refine g_getr X (x := ad 35) 33 4 3 dX5_says_19 (sgN (by decide)) rfl (by decide) rfl iw_X5 (by decide) rfl q_fl_X5_23 rfl ?_
    refine g_iload_n X 3 dX5_says_22 rfl rfl ?_
    obtain ⟨h23, hf⟩ := grd hf
    obtain ⟨w23, ew23, hf⟩ := wi_i hf
    have fw23 : isV w23 := by rw [ew23]; exact V_is (inn_lt h23)
    refine g_aaldr14 X 35 (n := 6) (x := ad w23) dX5_says_23 (sgN (by decide)) rfl rfl h23 (by rw [ew23]; exact V_at (inn_lt h23)) ?_
    refine g_astore X (lv' := [(6, .ref (ad w23)), (5, .ref (ad w8)), (0, .ref (ad 33)), (1, .ref (ad f)), (2, .int p1), (3, .int p2), (4, .int p3)]) dX5_says_24 (by decide) rfl ?_
    refine g_aload_n X 2 dX5_says_26 rfl rfl ?_
    refine g_aload_n X 3 dX5_says_27 rfl rfl ?_
    refine g_iload_n X 4 dX5_says_28 rfl rfl ?_
    refine g_aload X 1 dX5_says_29 rfl ?_
    obtain ⟨r31, m31, h31, hf⟩ := bl_i hf
    refine g_eVL X 33 4 [.ref (ad f), .int p1, .ref (ad w8)] kV_X5_44 (c_X5_keyOf hf9 fw8 h31) dX5_says_31 rfl rfl (sgN (by decide)) rfl (by decide) rfl rfl ⟨(Nat.le_of_ble_eq_true rfl), (Nat.le_of_ble_eq_true rfl)⟩ ⟨rfl, rfl⟩ ⟨(Nat.zero_le _), (Nat.zero_le _)⟩ (Nat.le_of_ble_eq_true rfl) ?_
    refine g_lstore X (lv' := [(7, .long r31), (6, .ref (ad w23)), (5, .ref (ad w8)), (0, .ref (ad 33)), (1, .ref (ad f)), (2, .int p1), (3, .int p2), (4, .int p3)]) dX5_says_34 (by decide) rfl ?_
    refine g_aload X 1 dX5_says_36 rfl ?_
    refine g_getJ X w23 7 0 dX5_says_38 (V_lt0 fw23) (V_kd0 fw23) (by decide) rfl iw_X8 (by decide) rfl q_fl_X5_48 ?_
    refine g_lload X 0 dX5_says_41 rfl ?_
    refine g_lcmp X dX5_says_43 ?_
    refine g_if_eq X (tgt := 60) dX5_says_44 (by decide) (fun c44 => ?_) (fun c44 => ?_)
    · have hf := it c44 hf
      refine g_pick [3, 4, 5, 6, 7, 2, 1] (lv' := [(0, .ref (ad 33)), (1, .ref (ad f)), (2, .int p1), (3, .int p2), (4, .int p3), (5, .ref (ad w8)), (6, .ref (ad w23))]) rfl ?_
      exact w_X5_says_60 hf9 X hret p1 p2 p3 w8 w23 fw8 fw23 m31 hf
    · have hf := ie c44 hf
      refine g_aload X 1 dX5_says_47 rfl ?_
      refine g_lload X 0 dX5_says_49 rfl ?_
      refine g_putJ X (tyf := tyX8) w23 7 0 dX5_says_51 (V_lt0 fw23) (V_kd0 fw23) (by decide) rfl iw_X8 (by decide) rfl q_fl_X5_48 tyX8_ok nmX8 rfl rfl rfl ?_
      refine g_aload X 1 dX5_says_54 rfl ?_
      refine g_iconst X (v := 0) dX5_says_56 (by decide) ?_
      refine g_putI X (tyf := tyX8) w23 7 1 dX5_says_57 (V_lt0 fw23) (V_kd0 fw23) (by decide) rfl iw_X8 (by decide) rfl q_fl_X5_52 tyX8_ok nmX8 rfl rfl rfl ?_
      refine g_pick [3, 4, 5, 6, 7, 2, 1] (lv' := [(0, .ref (ad 33)), (1, .ref (ad f)), (2, .int p1), (3, .int p2), (4, .int p3), (5, .ref (ad w8)), (6, .ref (ad w23))]) rfl ?_
      exact w_X5_says_60 hf9 X hret p1 p2 p3 w8 w23 fw8 fw23 (pI (pJ m31 w23 0 r31) w23 1 (0 : Int32)) hf
  · have hf := ie c8 hf
    refine g_aaldn13 X 34 (n := 6) dX5_says_8 (sgN (by decide)) rfl rfl h8 (T_no c8) ?_
    refine g_astoreN X (lv' := [(5, .null), (0, .ref (ad 33)), (1, .ref (ad f)), (2, .int p1), (3, .int p2), (4, .int p3)]) dX5_says_9 (by decide) rfl ?_
    refine g_aloadN X 0 dX5_says_11 rfl ?_
    refine g_ifnonnullN X dX5_says_13 ?_
    refine g_iconst X (v := 0) dX5_says_16 (by decide) ?_
    obtain ⟨rfl, rfl⟩ := lf2 hf
    exact hret 17 _ dX5_says_17 rfl

theorem kV_X2_17 : wcV RX2 17 RX5 yX5_says cX5_says 11 (some .int) 4 := ⟨q_ml_X2_17, q_im_yX5_says, q_se_yX5_says, q_in_X5, q_co_yX5_says, by decide +kernel⟩

theorem kS_X2_23 : wcS RX2 23 yX1_takes cX1_takes 6 (some .boolean) 4 := ⟨q_ml_X2_23, q_st_yX1_takes, q_in_X1, q_co_yX1_takes, by decide +kernel⟩

def X2_takes_22 (nt : Nat) (z : Nat → Nat) (f : Nat) (s0 : Int32) (s1 : Int32) (s2 : Int32) (m0 : Mem) : Option (Int32 × Mem) :=
  bi (X1_takes f s2 s1 s0 m0) fun r22 m22 =>
  if r22 = 0 ∨ r22 = 1 then some (r22, m22) else none
def X2_takes (nt : Nat) (z : Nat → Nat) (f : Nat) (p1 : Int32) (p2 : Int32) (m0 : Mem) : Option (Int32 × Mem) :=
  bi (X5_says nt z f p1 (0 : Int32) p2 m0) fun r11 m11 =>
  if r11 = 0 then
    X2_takes_22 nt z f (0 : Int32) p2 p1 m11
  else
    X2_takes_22 nt z f (1 : Int32) p2 p1 m11
abbrev rmX2_takes : Room := { frames := 3, cells := 0, slots := 0, locals := 90 }
set_option maxRecDepth 100000 in
set_option maxHeartbeats 4000000 in
theorem w_X2_takes_22 {Γ : Ga} {b : Nat} {ad : Nat → Nat} {nt : Nat} {z : Nat → Nat} {f : Nat} {r9 : Int32} {m9 : Mem} (hf9 : isF f) (X : Cx Γ b cX2_takes 4 RX2 (some .boolean) rmX2_takes) (hret : ∀ (pc : Nat) (lv : List (Nat × Value)), decode cX2_takes pc = .ok (.ireturn, 1) → narrow .boolean (.int r9) = .int r9 → Go Γ b (sg ad nt z) 0 0 pc lv [.int r9] m9) (s0 : Int32) (s1 : Int32) (s2 : Int32) (m0 : Mem) (hf : X2_takes_22 nt z f s0 s1 s2 m0 = some (r9, m9)) : Go Γ b (sg ad nt z) 0 0 22 [] [.int s0, .int s1, .int s2, .ref (ad f)] m0 := by
  obtain ⟨r22, m22, h22, hf⟩ := bi_i hf
  refine g_eSI X [.ref (ad f), .int s2, .int s1, .int s0] kS_X2_23 (c_X1_takes hf9 h22) dX2_takes_22 rfl rfl ⟨(Nat.le_of_ble_eq_true rfl), (Nat.le_of_ble_eq_true rfl)⟩ ⟨rfl, rfl⟩ ⟨(Nat.zero_le _), (Nat.zero_le _)⟩ (Nat.le_of_ble_eq_true rfl) ?_
  obtain ⟨hz, hf⟩ := grd hf
  obtain ⟨rfl, rfl⟩ := lf2 hf
  exact hret 25 _ dX2_takes_25 (nw_z hz)
set_option maxRecDepth 100000 in
set_option maxHeartbeats 4000000 in
theorem c_X2_takes {l : Launch} {G : GG} {b : Nat} {ad : Nat → Nat} {nt : Nat} {z : Nat → Nat} {f : Nat} {p1 : Int32} {p2 : Int32} {m0 : Mem} {r9 : Int32} {m9 : Mem} (hf9 : isF f) (hf : X2_takes nt z f p1 p2 m0 = some (r9, m9)) : MtI l yX2_takes cX2_takes 4 (some .boolean) rmX2_takes G b (sg ad nt z) m0 [.ref (ad 50), .ref (ad f), .int p1, .int p2] (pEI r9 (sg ad nt z) m9) := by
  refine mtI_of (by decide) (Nat.le_of_ble_eq_true rfl) .boolean rfl (fun Γ hG X hnm hr => ?_)
  have hret : ∀ (pc : Nat) (lv : List (Nat × Value)), decode cX2_takes pc = .ok (.ireturn, 1) → narrow .boolean (.int r9) = .int r9 → Go Γ b (sg ad nt z) 0 0 pc lv [.int r9] m9 := fun pc lv d hn => hr pc lv _ _ _ d ⟨rfl, rfl, rfl⟩ hn
  show Go Γ b (sg ad nt z) 0 0 0 [(0, .ref (ad 50)), (1, .ref (ad f)), (2, .int p1), (3, .int p2)] [] m0
  refine g_aload_n X 1 dX2_takes_0 rfl rfl ?_
  refine g_iload_n X 2 dX2_takes_1 rfl rfl ?_
  refine g_iload_n X 3 dX2_takes_2 rfl rfl ?_
  refine g_aload_n X 0 dX2_takes_3 rfl rfl ?_
  refine g_getr X (x := ad 33) 50 1 0 dX2_takes_4 (sgN (by decide)) rfl (by decide) rfl iw_X2 (by decide) rfl q_fl_X2_9 rfl ?_
  refine g_aload_n X 1 dX2_takes_7 rfl rfl ?_
  refine g_iload_n X 2 dX2_takes_8 rfl rfl ?_
  refine g_iconst X (v := 0) dX2_takes_9 (by decide) ?_
  refine g_iload_n X 3 dX2_takes_10 rfl rfl ?_
  obtain ⟨r11, m11, h11, hf⟩ := bi_i hf
  refine g_eVI X 33 4 [.ref (ad f), .int p1, .int (0 : Int32), .int p2] kV_X2_17 (c_X5_says hf9 h11) dX2_takes_11 rfl rfl (sgN (by decide)) rfl (by decide) rfl rfl ⟨(Nat.le_of_ble_eq_true rfl), (Nat.le_of_ble_eq_true rfl)⟩ ⟨rfl, rfl⟩ ⟨(Nat.zero_le _), (Nat.zero_le _)⟩ (Nat.le_of_ble_eq_true rfl) ?_
  refine g_if_eq X (tgt := 21) dX2_takes_14 (by decide) (fun c14 => ?_) (fun c14 => ?_)
  · have hf := it c14 hf
    refine g_iconst X (v := 0) dX2_takes_21 (by decide) ?_
    refine g_pick [] (lv' := []) rfl ?_
    exact w_X2_takes_22 hf9 X hret (0 : Int32) p2 p1 m11 hf
  · have hf := ie c14 hf
    refine g_iconst X (v := 1) dX2_takes_17 (by decide) ?_
    refine g_goto X (tgt := 22) dX2_takes_18 (by decide) ?_
    refine g_pick [] (lv' := []) rfl ?_
    exact w_X2_takes_22 hf9 X hret (1 : Int32) p2 p1 m11 hf

theorem kS_X2_38 : wcS RX2 38 yX1_worth cX1_worth 4 (some .int) 3 := ⟨q_ml_X2_38, q_st_yX1_worth, q_in_X1, q_co_yX1_worth, by decide +kernel⟩

def X2_worth (nt : Nat) (z : Nat → Nat) (f : Nat) (p1 : Int32) (p2 : Int32) (m0 : Mem) : Option (Int32 × Mem) :=
  if inn p1 6 then
  if inn p1 6 then
  bi (X5_says nt z f p1 (1 : Int32) p2 m0) fun r20 m20 =>
  bi (X1_worth (m0.1 (f + 1) p1.toNatClampNeg) (m0.1 (f + 2) p1.toNatClampNeg) r20 m20) fun r23 m23 =>
  some (r23, m23)
  else none
  else none
abbrev rmX2_worth : Room := { frames := 3, cells := 0, slots := 0, locals := 90 }

set_option maxRecDepth 100000 in
set_option maxHeartbeats 4000000 in
theorem c_X2_worth {l : Launch} {G : GG} {b : Nat} {ad : Nat → Nat} {nt : Nat} {z : Nat → Nat} {f : Nat} {p1 : Int32} {p2 : Int32} {m0 : Mem} {r9 : Int32} {m9 : Mem} (hf9 : isF f) (hf : X2_worth nt z f p1 p2 m0 = some (r9, m9)) : MtI l yX2_worth cX2_worth 4 (some .int) rmX2_worth G b (sg ad nt z) m0 [.ref (ad 50), .ref (ad f), .int p1, .int p2] (pEI r9 (sg ad nt z) m9) := by
  refine mtI_of (by decide) (Nat.le_of_ble_eq_true rfl) .int rfl (fun Γ hG X hnm hr => ?_)
  have hret : ∀ (pc : Nat) (lv : List (Nat × Value)), decode cX2_worth pc = .ok (.ireturn, 1) → narrow .int (.int r9) = .int r9 → Go Γ b (sg ad nt z) 0 0 pc lv [.int r9] m9 := fun pc lv d hn => hr pc lv _ _ _ d ⟨rfl, rfl, rfl⟩ hn
  show Go Γ b (sg ad nt z) 0 0 0 [(0, .ref (ad 50)), (1, .ref (ad f)), (2, .int p1), (3, .int p2)] [] m0
  refine g_aload_n X 1 dX2_worth_0 rfl rfl ?_
  refine g_getr X (x := ad (f + 1)) f 0 3 dX2_worth_1 (F_lt0 hf9) (F_kd0 hf9) (by decide) rfl iw_X0 (by decide) rfl q_fl_X2_29 (F_r3 hf9) ?_
  refine g_iload_n X 2 dX2_worth_4 rfl rfl ?_
  obtain ⟨h5, hf⟩ := grd hf
  refine g_iald X (f + 1) (n := 6) dX2_worth_5 (F_lt1 hf9) (F_kd1 hf9) (F_ln1 hf9) h5 ?_
  refine g_aload_n X 1 dX2_worth_6 rfl rfl ?_
  refine g_getr X (x := ad (f + 2)) f 0 4 dX2_worth_7 (F_lt0 hf9) (F_kd0 hf9) (by decide) rfl iw_X0 (by decide) rfl q_fl_X2_35 (F_r4 hf9) ?_
  refine g_iload_n X 2 dX2_worth_10 rfl rfl ?_
  obtain ⟨h11, hf⟩ := grd hf
  refine g_iald X (f + 2) (n := 6) dX2_worth_11 (F_lt2 hf9) (F_kd2 hf9) (F_ln2 hf9) h11 ?_
  refine g_aload_n X 0 dX2_worth_12 rfl rfl ?_
  refine g_getr X (x := ad 33) 50 1 0 dX2_worth_13 (sgN (by decide)) rfl (by decide) rfl iw_X2 (by decide) rfl q_fl_X2_9 rfl ?_
  refine g_aload_n X 1 dX2_worth_16 rfl rfl ?_
  refine g_iload_n X 2 dX2_worth_17 rfl rfl ?_
  refine g_iconst X (v := 1) dX2_worth_18 (by decide) ?_
  refine g_iload_n X 3 dX2_worth_19 rfl rfl ?_
  obtain ⟨r20, m20, h20, hf⟩ := bi_i hf
  refine g_eVI X 33 4 [.ref (ad f), .int p1, .int (1 : Int32), .int p2] kV_X2_17 (c_X5_says hf9 h20) dX2_worth_20 rfl rfl (sgN (by decide)) rfl (by decide) rfl rfl ⟨(Nat.le_of_ble_eq_true rfl), (Nat.le_of_ble_eq_true rfl)⟩ ⟨rfl, rfl⟩ ⟨(Nat.zero_le _), (Nat.zero_le _)⟩ (Nat.le_of_ble_eq_true rfl) ?_
  obtain ⟨r23, m23, h23, hf⟩ := bi_i hf
  refine g_eSI X [.int (m0.1 (f + 1) p1.toNatClampNeg), .int (m0.1 (f + 2) p1.toNatClampNeg), .int r20] kS_X2_38 (c_X1_worth h23) dX2_worth_23 rfl rfl ⟨(Nat.le_of_ble_eq_true rfl), (Nat.le_of_ble_eq_true rfl)⟩ ⟨rfl, rfl⟩ ⟨(Nat.zero_le _), (Nat.zero_le _)⟩ (Nat.le_of_ble_eq_true rfl) ?_
  obtain ⟨rfl, rfl⟩ := lf2 hf
  exact hret 26 _ dX2_worth_26 rfl

theorem kS_X2_42 : wcS RX2 42 yX1_time cX1_time 4 (some .int) 3 := ⟨q_ml_X2_42, q_st_yX1_time, q_in_X1, q_co_yX1_time, by decide +kernel⟩

def X2_time (nt : Nat) (z : Nat → Nat) (f : Nat) (p1 : Int32) (p2 : Int32) (m0 : Mem) : Option (Int32 × Mem) :=
  if inn p1 6 then
  if inn p1 6 then
  bi (X5_says nt z f p1 (2 : Int32) p2 m0) fun r20 m20 =>
  bi (X1_time (m0.1 (f + 1) p1.toNatClampNeg) (m0.1 (f + 2) p1.toNatClampNeg) r20 m20) fun r23 m23 =>
  some (r23, m23)
  else none
  else none
abbrev rmX2_time : Room := { frames := 3, cells := 0, slots := 0, locals := 90 }

set_option maxRecDepth 100000 in
set_option maxHeartbeats 4000000 in
theorem c_X2_time {l : Launch} {G : GG} {b : Nat} {ad : Nat → Nat} {nt : Nat} {z : Nat → Nat} {f : Nat} {p1 : Int32} {p2 : Int32} {m0 : Mem} {r9 : Int32} {m9 : Mem} (hf9 : isF f) (hf : X2_time nt z f p1 p2 m0 = some (r9, m9)) : MtI l yX2_time cX2_time 4 (some .int) rmX2_time G b (sg ad nt z) m0 [.ref (ad 50), .ref (ad f), .int p1, .int p2] (pEI r9 (sg ad nt z) m9) := by
  refine mtI_of (by decide) (Nat.le_of_ble_eq_true rfl) .int rfl (fun Γ hG X hnm hr => ?_)
  have hret : ∀ (pc : Nat) (lv : List (Nat × Value)), decode cX2_time pc = .ok (.ireturn, 1) → narrow .int (.int r9) = .int r9 → Go Γ b (sg ad nt z) 0 0 pc lv [.int r9] m9 := fun pc lv d hn => hr pc lv _ _ _ d ⟨rfl, rfl, rfl⟩ hn
  show Go Γ b (sg ad nt z) 0 0 0 [(0, .ref (ad 50)), (1, .ref (ad f)), (2, .int p1), (3, .int p2)] [] m0
  refine g_aload_n X 1 dX2_time_0 rfl rfl ?_
  refine g_getr X (x := ad (f + 1)) f 0 3 dX2_time_1 (F_lt0 hf9) (F_kd0 hf9) (by decide) rfl iw_X0 (by decide) rfl q_fl_X2_29 (F_r3 hf9) ?_
  refine g_iload_n X 2 dX2_time_4 rfl rfl ?_
  obtain ⟨h5, hf⟩ := grd hf
  refine g_iald X (f + 1) (n := 6) dX2_time_5 (F_lt1 hf9) (F_kd1 hf9) (F_ln1 hf9) h5 ?_
  refine g_aload_n X 1 dX2_time_6 rfl rfl ?_
  refine g_getr X (x := ad (f + 2)) f 0 4 dX2_time_7 (F_lt0 hf9) (F_kd0 hf9) (by decide) rfl iw_X0 (by decide) rfl q_fl_X2_35 (F_r4 hf9) ?_
  refine g_iload_n X 2 dX2_time_10 rfl rfl ?_
  obtain ⟨h11, hf⟩ := grd hf
  refine g_iald X (f + 2) (n := 6) dX2_time_11 (F_lt2 hf9) (F_kd2 hf9) (F_ln2 hf9) h11 ?_
  refine g_aload_n X 0 dX2_time_12 rfl rfl ?_
  refine g_getr X (x := ad 33) 50 1 0 dX2_time_13 (sgN (by decide)) rfl (by decide) rfl iw_X2 (by decide) rfl q_fl_X2_9 rfl ?_
  refine g_aload_n X 1 dX2_time_16 rfl rfl ?_
  refine g_iload_n X 2 dX2_time_17 rfl rfl ?_
  refine g_iconst X (v := 2) dX2_time_18 (by decide) ?_
  refine g_iload_n X 3 dX2_time_19 rfl rfl ?_
  obtain ⟨r20, m20, h20, hf⟩ := bi_i hf
  refine g_eVI X 33 4 [.ref (ad f), .int p1, .int (2 : Int32), .int p2] kV_X2_17 (c_X5_says hf9 h20) dX2_time_20 rfl rfl (sgN (by decide)) rfl (by decide) rfl rfl ⟨(Nat.le_of_ble_eq_true rfl), (Nat.le_of_ble_eq_true rfl)⟩ ⟨rfl, rfl⟩ ⟨(Nat.zero_le _), (Nat.zero_le _)⟩ (Nat.le_of_ble_eq_true rfl) ?_
  obtain ⟨r23, m23, h23, hf⟩ := bi_i hf
  refine g_eSI X [.int (m0.1 (f + 1) p1.toNatClampNeg), .int (m0.1 (f + 2) p1.toNatClampNeg), .int r20] kS_X2_42 (c_X1_time h23) dX2_time_23 rfl rfl ⟨(Nat.le_of_ble_eq_true rfl), (Nat.le_of_ble_eq_true rfl)⟩ ⟨rfl, rfl⟩ ⟨(Nat.zero_le _), (Nat.zero_le _)⟩ (Nat.le_of_ble_eq_true rfl) ?_
  obtain ⟨rfl, rfl⟩ := lf2 hf
  exact hret 26 _ dX2_time_26 rfl

theorem kV_X2_45 : wcV RX2 45 RX0 yX0_isKnown cX0_isKnown 3 (some .boolean) 2 := ⟨q_ml_X2_45, q_im_yX0_isKnown, q_se_yX0_isKnown, q_in_X0, q_co_yX0_isKnown, by decide +kernel⟩

theorem kS_X2_49 : wcS RX2 49 yX1_tellsFree cX1_tellsFree 2 (some .boolean) 2 := ⟨q_ml_X2_49, q_st_yX1_tellsFree, q_in_X1, q_co_yX1_tellsFree, by decide +kernel⟩

theorem kV_X2_55 : wcV RX2 55 RX2 yX2_takes cX2_takes 4 (some .boolean) 3 := ⟨q_ml_X2_55, q_im_yX2_takes, q_se_yX2_takes, q_in_X2, q_co_yX2_takes, by decide +kernel⟩

theorem kV_X2_58 : wcV RX2 58 RX2 yX2_worth cX2_worth 4 (some .int) 3 := ⟨q_ml_X2_58, q_im_yX2_worth, q_se_yX2_worth, q_in_X2, q_co_yX2_worth, by decide +kernel⟩

def X2_payment_131 (nt : Nat) (z : Nat → Nat) (f : Nat) (k69 : Int32 → Int32 → Int32 → Int32 → Int32 → Int32 → Mem → Option (Int32 × Mem)) (v2 : Int32) (v3 : Int32) (v5 : Int32) (v6 : Int32) (v7 : Int32) (v8 : Int32) (m0 : Mem) : Option (Int32 × Mem) :=
  k69 v2 v3 v5 v6 v7 (v8 + (1 : Int32)) m0
def X2_payment_123 (nt : Nat) (z : Nat → Nat) (f : Nat) (k69 : Int32 → Int32 → Int32 → Int32 → Int32 → Int32 → Mem → Option (Int32 × Mem)) (v2 : Int32) (v3 : Int32) (v7 : Int32) (v8 : Int32) (v9 : Int32) (m0 : Mem) : Option (Int32 × Mem) :=
  X2_payment_131 nt z f k69 v2 v3 v8 v9 v7 v8 m0
def X2_payment_69 (nt : Nat) (z : Nat → Nat) (f : Nat) : Nat → Int32 → Int32 → Int32 → Int32 → Int32 → Int32 → Mem → Option (Int32 × Mem)
  | 0, _, _, _, _, _, _, _ => none
  | n + 1, v2, v3, v5, v6, v7, v8, m0 =>
    if (8 : Int32) ≤ v8 then
      some (v5, m0)
    else
      if ((v7 >>> (v8 &&& 31)) &&& (1 : Int32)) = 0 then
        X2_payment_131 nt z f (X2_payment_69 nt z f n) v2 v3 v5 v6 v7 v8 m0
      else
        bi (X2_takes nt z f v3 v8 m0) fun r91 m91 =>
        if r91 = 0 then
          X2_payment_131 nt z f (X2_payment_69 nt z f n) v2 v3 v5 v6 v7 v8 m91
        else
          bi (X2_worth nt z f v2 v8 m91) fun r105 m105 =>
          if v5 = (-1 : Int32) then
            X2_payment_123 nt z f (X2_payment_69 nt z f n) v2 v3 v7 v8 r105 m105
          else
            if v6 ≤ r105 then
              X2_payment_131 nt z f (X2_payment_69 nt z f n) v2 v3 v5 v6 v7 v8 m105
            else
              X2_payment_123 nt z f (X2_payment_69 nt z f n) v2 v3 v7 v8 r105 m105
def X2_payment (nt : Nat) (z : Nat → Nat) (f : Nat) (p1 : Int32) (p2 : Int32) (p3 : Int32) (m0 : Mem) : Option (Int32 × Mem) :=
  bi (X0_isKnown f p2 p3 m0) fun r4 m4 =>
  if r4 = 0 then
    some ((-1 : Int32), m4)
  else
    bi (X0_isKnown f p1 p3 m4) fun r14 m14 =>
    if r14 = 0 then
      if inn p2 6 then
      if inn p2 6 then
      bi (X1_tellsFree (m14.1 (f + 1) p2.toNatClampNeg) (m14.1 (f + 2) p2.toNatClampNeg) m14) fun r34 m34 =>
      if r34 = 0 then
        if inn p1 6 then
        if inn p2 6 then
        X2_payment_69 nt z f 10000 p1 p2 (-1 : Int32) (0 : Int32) ((m34.1 (f + 4) p1.toNatClampNeg) &&& ((m34.1 (f + 4) p2.toNatClampNeg) ^^^ (-1 : Int32))) (0 : Int32) m34
        else none
        else none
      else
        some ((8 : Int32), m34)
      else none
      else none
    else
      some ((-1 : Int32), m14)
abbrev rmX2_payment : Room := { frames := 4, cells := 0, slots := 0, locals := 113 }
set_option maxRecDepth 100000 in
set_option maxHeartbeats 4000000 in
theorem w_X2_payment_131 {Γ : Ga} {b : Nat} {ad : Nat → Nat} {nt : Nat} {z : Nat → Nat} {f : Nat} {k69 : Int32 → Int32 → Int32 → Int32 → Int32 → Int32 → Mem → Option (Int32 × Mem)} {r9 : Int32} {m9 : Mem} (hf9 : isF f) (X : Cx Γ b cX2_payment 10 RX2 (some .int) rmX2_payment) (hret : ∀ (pc : Nat) (lv : List (Nat × Value)), decode cX2_payment pc = .ok (.ireturn, 1) → narrow .int (.int r9) = .int r9 → Go Γ b (sg ad nt z) 0 0 pc lv [.int r9] m9) (hk69 : ∀ (v2 : Int32) (v3 : Int32) (v5 : Int32) (v6 : Int32) (v7 : Int32) (v8 : Int32) (m0 : Mem), k69 v2 v3 v5 v6 v7 v8 m0 = some (r9, m9) → Go Γ b (sg ad nt z) 0 0 69 [(0, .ref (ad 50)), (1, .ref (ad f)), (2, .int v2), (3, .int v3), (5, .int v5), (6, .int v6), (7, .int v7), (8, .int v8)] [] m0) (v2 : Int32) (v3 : Int32) (v5 : Int32) (v6 : Int32) (v7 : Int32) (v8 : Int32) (m0 : Mem) (hf : X2_payment_131 nt z f k69 v2 v3 v5 v6 v7 v8 m0 = some (r9, m9)) : Go Γ b (sg ad nt z) 0 0 131 [(0, .ref (ad 50)), (1, .ref (ad f)), (2, .int v2), (3, .int v3), (5, .int v5), (6, .int v6), (7, .int v7), (8, .int v8)] [] m0 := by
  refine g_iinc X 7 (v := v8 + (1 : Int32)) (lv' := [(8, .int (v8 + (1 : Int32))), (0, .ref (ad 50)), (1, .ref (ad f)), (2, .int v2), (3, .int v3), (5, .int v5), (6, .int v6), (7, .int v7)]) dX2_payment_131 rfl rfl (by decide) rfl ?_
  refine g_goto X (tgt := 69) dX2_payment_134 (by decide) ?_
  refine g_pick [1, 2, 3, 4, 5, 6, 7, 0] (lv' := [(0, .ref (ad 50)), (1, .ref (ad f)), (2, .int v2), (3, .int v3), (5, .int v5), (6, .int v6), (7, .int v7), (8, .int (v8 + (1 : Int32)))]) rfl ?_
  exact hk69 v2 v3 v5 v6 v7 (v8 + (1 : Int32)) m0 hf
set_option maxRecDepth 100000 in
set_option maxHeartbeats 4000000 in
theorem w_X2_payment_123 {Γ : Ga} {b : Nat} {ad : Nat → Nat} {nt : Nat} {z : Nat → Nat} {f : Nat} {k69 : Int32 → Int32 → Int32 → Int32 → Int32 → Int32 → Mem → Option (Int32 × Mem)} {r9 : Int32} {m9 : Mem} (hf9 : isF f) (X : Cx Γ b cX2_payment 10 RX2 (some .int) rmX2_payment) (hret : ∀ (pc : Nat) (lv : List (Nat × Value)), decode cX2_payment pc = .ok (.ireturn, 1) → narrow .int (.int r9) = .int r9 → Go Γ b (sg ad nt z) 0 0 pc lv [.int r9] m9) (hk69 : ∀ (v2 : Int32) (v3 : Int32) (v5 : Int32) (v6 : Int32) (v7 : Int32) (v8 : Int32) (m0 : Mem), k69 v2 v3 v5 v6 v7 v8 m0 = some (r9, m9) → Go Γ b (sg ad nt z) 0 0 69 [(0, .ref (ad 50)), (1, .ref (ad f)), (2, .int v2), (3, .int v3), (5, .int v5), (6, .int v6), (7, .int v7), (8, .int v8)] [] m0) (v2 : Int32) (v3 : Int32) (v7 : Int32) (v8 : Int32) (v9 : Int32) (m0 : Mem) (hf : X2_payment_123 nt z f k69 v2 v3 v7 v8 v9 m0 = some (r9, m9)) : Go Γ b (sg ad nt z) 0 0 123 [(0, .ref (ad 50)), (1, .ref (ad f)), (2, .int v2), (3, .int v3), (7, .int v7), (8, .int v8), (9, .int v9)] [] m0 := by
  refine g_iload X 5 dX2_payment_123 rfl ?_
  refine g_istore X (lv' := [(5, .int v8), (0, .ref (ad 50)), (1, .ref (ad f)), (2, .int v2), (3, .int v3), (7, .int v7), (8, .int v8), (9, .int v9)]) dX2_payment_125 (by decide) rfl ?_
  refine g_iload X 7 dX2_payment_127 rfl ?_
  refine g_istore X (lv' := [(6, .int v9), (5, .int v8), (0, .ref (ad 50)), (1, .ref (ad f)), (2, .int v2), (3, .int v3), (7, .int v7), (8, .int v8), (9, .int v9)]) dX2_payment_129 (by decide) rfl ?_
  refine g_pick [2, 3, 4, 5, 1, 0, 6, 7] (lv' := [(0, .ref (ad 50)), (1, .ref (ad f)), (2, .int v2), (3, .int v3), (5, .int v8), (6, .int v9), (7, .int v7), (8, .int v8)]) rfl ?_
  exact w_X2_payment_131 hf9 X hret hk69 v2 v3 v8 v9 v7 v8 m0 hf
set_option maxRecDepth 100000 in
set_option maxHeartbeats 4000000 in
theorem w_X2_payment_69 {Γ : Ga} {b : Nat} {ad : Nat → Nat} {nt : Nat} {z : Nat → Nat} {f : Nat} {r9 : Int32} {m9 : Mem} (hf9 : isF f) (X : Cx Γ b cX2_payment 10 RX2 (some .int) rmX2_payment) (hret : ∀ (pc : Nat) (lv : List (Nat × Value)), decode cX2_payment pc = .ok (.ireturn, 1) → narrow .int (.int r9) = .int r9 → Go Γ b (sg ad nt z) 0 0 pc lv [.int r9] m9) : ∀ (n : Nat) (v2 : Int32) (v3 : Int32) (v5 : Int32) (v6 : Int32) (v7 : Int32) (v8 : Int32) (m0 : Mem), X2_payment_69 nt z f n v2 v3 v5 v6 v7 v8 m0 = some (r9, m9) → Go Γ b (sg ad nt z) 0 0 69 [(0, .ref (ad 50)), (1, .ref (ad f)), (2, .int v2), (3, .int v3), (5, .int v5), (6, .int v6), (7, .int v7), (8, .int v8)] [] m0 := by
  intro n
  induction n with
  | zero =>
    intro v2 v3 v5 v6 v7 v8 m0 hf
    cases hf
  | succ n ih =>
    intro v2 v3 v5 v6 v7 v8 m0 hf
    refine g_iload X 7 dX2_payment_69 rfl ?_
    refine g_bipush X (v := 8) dX2_payment_71 (by decide) ?_
    refine g_icmp_ge X (tgt := 137) dX2_payment_73 (by decide) (fun c73 => ?_) (fun c73 => ?_)
    · have hf := it c73 hf
      refine g_iload X 4 dX2_payment_137 rfl ?_
      obtain ⟨rfl, rfl⟩ := lf2 hf
      exact hret 139 _ dX2_payment_139 rfl
    · have hf := ie c73 hf
      refine g_iload X 6 dX2_payment_76 rfl ?_
      refine g_iload X 7 dX2_payment_78 rfl ?_
      refine g_ishr X dX2_payment_80 ?_
      refine g_iconst X (v := 1) dX2_payment_81 (by decide) ?_
      refine g_iand X dX2_payment_82 ?_
      refine g_if_eq X (tgt := 131) dX2_payment_83 (by decide) (fun c83 => ?_) (fun c83 => ?_)
      · have hf := it c83 hf
        exact w_X2_payment_131 hf9 X hret ih v2 v3 v5 v6 v7 v8 m0 hf
      · have hf := ie c83 hf
        refine g_aload_n X 0 dX2_payment_86 rfl rfl ?_
        refine g_aload_n X 1 dX2_payment_87 rfl rfl ?_
        refine g_iload_n X 3 dX2_payment_88 rfl rfl ?_
        refine g_iload X 7 dX2_payment_89 rfl ?_
        obtain ⟨r91, m91, h91, hf⟩ := bi_i hf
        refine g_eVI X 50 1 [.ref (ad f), .int v3, .int v8] kV_X2_55 (c_X2_takes hf9 h91) dX2_payment_91 rfl rfl (sgN (by decide)) rfl (by decide) rfl rfl ⟨(Nat.le_of_ble_eq_true rfl), (Nat.le_of_ble_eq_true rfl)⟩ ⟨rfl, rfl⟩ ⟨(Nat.zero_le _), (Nat.zero_le _)⟩ (Nat.le_of_ble_eq_true rfl) ?_
        refine g_if_ne X (tgt := 100) dX2_payment_94 (by decide) (fun c94 => ?_) (fun c94 => ?_)
        · have hf := ie c94 hf
          refine g_aload_n X 0 dX2_payment_100 rfl rfl ?_
          refine g_aload_n X 1 dX2_payment_101 rfl rfl ?_
          refine g_iload_n X 2 dX2_payment_102 rfl rfl ?_
          refine g_iload X 7 dX2_payment_103 rfl ?_
          obtain ⟨r105, m105, h105, hf⟩ := bi_i hf
          refine g_eVI X 50 1 [.ref (ad f), .int v2, .int v8] kV_X2_58 (c_X2_worth hf9 h105) dX2_payment_105 rfl rfl (sgN (by decide)) rfl (by decide) rfl rfl ⟨(Nat.le_of_ble_eq_true rfl), (Nat.le_of_ble_eq_true rfl)⟩ ⟨rfl, rfl⟩ ⟨(Nat.zero_le _), (Nat.zero_le _)⟩ (Nat.le_of_ble_eq_true rfl) ?_
          refine g_istore X (lv' := [(9, .int r105), (0, .ref (ad 50)), (1, .ref (ad f)), (2, .int v2), (3, .int v3), (5, .int v5), (6, .int v6), (7, .int v7), (8, .int v8)]) dX2_payment_108 (by decide) rfl ?_
          refine g_iload X 5 dX2_payment_110 rfl ?_
          refine g_iconst X (v := -1) dX2_payment_112 (by decide) ?_
          refine g_icmp_eq X (tgt := 123) dX2_payment_113 (by decide) (fun c113 => ?_) (fun c113 => ?_)
          · have hf := it c113 hf
            refine g_pick [1, 2, 3, 4, 7, 8, 0] (lv' := [(0, .ref (ad 50)), (1, .ref (ad f)), (2, .int v2), (3, .int v3), (7, .int v7), (8, .int v8), (9, .int r105)]) rfl ?_
            exact w_X2_payment_123 hf9 X hret ih v2 v3 v7 v8 r105 m105 hf
          · have hf := ie c113 hf
            refine g_iload X 0 dX2_payment_116 rfl ?_
            refine g_iload X 6 dX2_payment_118 rfl ?_
            refine g_icmp_ge X (tgt := 131) dX2_payment_120 (by decide) (fun c120 => ?_) (fun c120 => ?_)
            · have hf := it c120 hf
              refine g_pick [1, 2, 3, 4, 5, 6, 7, 8] (lv' := [(0, .ref (ad 50)), (1, .ref (ad f)), (2, .int v2), (3, .int v3), (5, .int v5), (6, .int v6), (7, .int v7), (8, .int v8)]) rfl ?_
              exact w_X2_payment_131 hf9 X hret ih v2 v3 v5 v6 v7 v8 m105 hf
            · have hf := ie c120 hf
              refine g_pick [1, 2, 3, 4, 7, 8, 0] (lv' := [(0, .ref (ad 50)), (1, .ref (ad f)), (2, .int v2), (3, .int v3), (7, .int v7), (8, .int v8), (9, .int r105)]) rfl ?_
              exact w_X2_payment_123 hf9 X hret ih v2 v3 v7 v8 r105 m105 hf
        · have hf := it c94 hf
          refine g_goto X (tgt := 131) dX2_payment_97 (by decide) ?_
          exact w_X2_payment_131 hf9 X hret ih v2 v3 v5 v6 v7 v8 m91 hf
set_option maxRecDepth 100000 in
set_option maxHeartbeats 4000000 in
theorem c_X2_payment {l : Launch} {G : GG} {b : Nat} {ad : Nat → Nat} {nt : Nat} {z : Nat → Nat} {f : Nat} {p1 : Int32} {p2 : Int32} {p3 : Int32} {m0 : Mem} {r9 : Int32} {m9 : Mem} (hf9 : isF f) (hf : X2_payment nt z f p1 p2 p3 m0 = some (r9, m9)) : MtI l yX2_payment cX2_payment 10 (some .int) rmX2_payment G b (sg ad nt z) m0 [.ref (ad 50), .ref (ad f), .int p1, .int p2, .int p3] (pEI r9 (sg ad nt z) m9) := by
  refine mtI_of (by decide) (Nat.le_of_ble_eq_true rfl) .int rfl (fun Γ hG X hnm hr => ?_)
  have hret : ∀ (pc : Nat) (lv : List (Nat × Value)), decode cX2_payment pc = .ok (.ireturn, 1) → narrow .int (.int r9) = .int r9 → Go Γ b (sg ad nt z) 0 0 pc lv [.int r9] m9 := fun pc lv d hn => hr pc lv _ _ _ d ⟨rfl, rfl, rfl⟩ hn
  show Go Γ b (sg ad nt z) 0 0 0 [(0, .ref (ad 50)), (1, .ref (ad f)), (2, .int p1), (3, .int p2), (4, .int p3)] [] m0
  refine g_aload_n X 1 dX2_payment_0 rfl rfl ?_
  refine g_iload_n X 3 dX2_payment_1 rfl rfl ?_
  refine g_iload X 4 dX2_payment_2 rfl ?_
  obtain ⟨r4, m4, h4, hf⟩ := bi_i hf
  refine g_eVI X f 0 [.int p2, .int p3] kV_X2_45 (c_X0_isKnown hf9 h4) dX2_payment_4 rfl rfl (F_lt0 hf9) (F_kd0 hf9) (by decide) rfl rfl ⟨(Nat.le_of_ble_eq_true rfl), (Nat.le_of_ble_eq_true rfl)⟩ ⟨rfl, rfl⟩ ⟨(Nat.zero_le _), (Nat.zero_le _)⟩ (Nat.le_of_ble_eq_true rfl) ?_
  refine g_if_eq X (tgt := 20) dX2_payment_7 (by decide) (fun c7 => ?_) (fun c7 => ?_)
  · have hf := it c7 hf
    refine g_iconst X (v := -1) dX2_payment_20 (by decide) ?_
    obtain ⟨rfl, rfl⟩ := lf2 hf
    exact hret 21 _ dX2_payment_21 rfl
  · have hf := ie c7 hf
    refine g_aload_n X 1 dX2_payment_10 rfl rfl ?_
    refine g_iload_n X 2 dX2_payment_11 rfl rfl ?_
    refine g_iload X 4 dX2_payment_12 rfl ?_
    obtain ⟨r14, m14, h14, hf⟩ := bi_i hf
    refine g_eVI X f 0 [.int p1, .int p3] kV_X2_45 (c_X0_isKnown hf9 h14) dX2_payment_14 rfl rfl (F_lt0 hf9) (F_kd0 hf9) (by decide) rfl rfl ⟨(Nat.le_of_ble_eq_true rfl), (Nat.le_of_ble_eq_true rfl)⟩ ⟨rfl, rfl⟩ ⟨(Nat.zero_le _), (Nat.zero_le _)⟩ (Nat.le_of_ble_eq_true rfl) ?_
    refine g_if_eq X (tgt := 22) dX2_payment_17 (by decide) (fun c17 => ?_) (fun c17 => ?_)
    · have hf := it c17 hf
      refine g_aload_n X 1 dX2_payment_22 rfl rfl ?_
      refine g_getr X (x := ad (f + 1)) f 0 3 dX2_payment_23 (F_lt0 hf9) (F_kd0 hf9) (by decide) rfl iw_X0 (by decide) rfl q_fl_X2_29 (F_r3 hf9) ?_
      refine g_iload_n X 3 dX2_payment_26 rfl rfl ?_
      obtain ⟨h27, hf⟩ := grd hf
      refine g_iald X (f + 1) (n := 6) dX2_payment_27 (F_lt1 hf9) (F_kd1 hf9) (F_ln1 hf9) h27 ?_
      refine g_aload_n X 1 dX2_payment_28 rfl rfl ?_
      refine g_getr X (x := ad (f + 2)) f 0 4 dX2_payment_29 (F_lt0 hf9) (F_kd0 hf9) (by decide) rfl iw_X0 (by decide) rfl q_fl_X2_35 (F_r4 hf9) ?_
      refine g_iload_n X 3 dX2_payment_32 rfl rfl ?_
      obtain ⟨h33, hf⟩ := grd hf
      refine g_iald X (f + 2) (n := 6) dX2_payment_33 (F_lt2 hf9) (F_kd2 hf9) (F_ln2 hf9) h33 ?_
      obtain ⟨r34, m34, h34, hf⟩ := bi_i hf
      refine g_eSI X [.int (m14.1 (f + 1) p2.toNatClampNeg), .int (m14.1 (f + 2) p2.toNatClampNeg)] kS_X2_49 (c_X1_tellsFree h34) dX2_payment_34 rfl rfl ⟨(Nat.le_of_ble_eq_true rfl), (Nat.le_of_ble_eq_true rfl)⟩ ⟨rfl, rfl⟩ ⟨(Nat.zero_le _), (Nat.zero_le _)⟩ (Nat.le_of_ble_eq_true rfl) ?_
      refine g_if_eq X (tgt := 43) dX2_payment_37 (by decide) (fun c37 => ?_) (fun c37 => ?_)
      · have hf := it c37 hf
        refine g_iconst X (v := -1) dX2_payment_43 (by decide) ?_
        refine g_istore X (lv' := [(5, .int (-1 : Int32)), (0, .ref (ad 50)), (1, .ref (ad f)), (2, .int p1), (3, .int p2), (4, .int p3)]) dX2_payment_44 (by decide) rfl ?_
        refine g_iconst X (v := 0) dX2_payment_46 (by decide) ?_
        refine g_istore X (lv' := [(6, .int (0 : Int32)), (5, .int (-1 : Int32)), (0, .ref (ad 50)), (1, .ref (ad f)), (2, .int p1), (3, .int p2), (4, .int p3)]) dX2_payment_47 (by decide) rfl ?_
        refine g_aload_n X 3 dX2_payment_49 rfl rfl ?_
        refine g_getr X (x := ad (f + 4)) f 0 6 dX2_payment_50 (F_lt0 hf9) (F_kd0 hf9) (by decide) rfl iw_X0 (by decide) rfl q_fl_X2_52 (F_r6 hf9) ?_
        refine g_iload_n X 4 dX2_payment_53 rfl rfl ?_
        obtain ⟨h54, hf⟩ := grd hf
        refine g_iald X (f + 4) (n := 6) dX2_payment_54 (F_lt4 hf9) (F_kd4 hf9) (F_ln4 hf9) h54 ?_
        refine g_aload_n X 3 dX2_payment_55 rfl rfl ?_
        refine g_getr X (x := ad (f + 4)) f 0 6 dX2_payment_56 (F_lt0 hf9) (F_kd0 hf9) (by decide) rfl iw_X0 (by decide) rfl q_fl_X2_52 (F_r6 hf9) ?_
        refine g_iload_n X 5 dX2_payment_59 rfl rfl ?_
        obtain ⟨h60, hf⟩ := grd hf
        refine g_iald X (f + 4) (n := 6) dX2_payment_60 (F_lt4 hf9) (F_kd4 hf9) (F_ln4 hf9) h60 ?_
        refine g_iconst X (v := -1) dX2_payment_61 (by decide) ?_
        refine g_ixor X dX2_payment_62 ?_
        refine g_iand X dX2_payment_63 ?_
        refine g_istore X (lv' := [(7, .int ((m34.1 (f + 4) p1.toNatClampNeg) &&& ((m34.1 (f + 4) p2.toNatClampNeg) ^^^ (-1 : Int32)))), (6, .int (0 : Int32)), (5, .int (-1 : Int32)), (0, .ref (ad 50)), (1, .ref (ad f)), (2, .int p1), (3, .int p2), (4, .int p3)]) dX2_payment_64 (by decide) rfl ?_
        refine g_iconst X (v := 0) dX2_payment_66 (by decide) ?_
        refine g_istore X (lv' := [(8, .int (0 : Int32)), (7, .int ((m34.1 (f + 4) p1.toNatClampNeg) &&& ((m34.1 (f + 4) p2.toNatClampNeg) ^^^ (-1 : Int32)))), (6, .int (0 : Int32)), (5, .int (-1 : Int32)), (0, .ref (ad 50)), (1, .ref (ad f)), (2, .int p1), (3, .int p2), (4, .int p3)]) dX2_payment_67 (by decide) rfl ?_
        refine g_pick [4, 5, 6, 7, 3, 2, 1, 0] (lv' := [(0, .ref (ad 50)), (1, .ref (ad f)), (2, .int p1), (3, .int p2), (5, .int (-1 : Int32)), (6, .int (0 : Int32)), (7, .int ((m34.1 (f + 4) p1.toNatClampNeg) &&& ((m34.1 (f + 4) p2.toNatClampNeg) ^^^ (-1 : Int32)))), (8, .int (0 : Int32))]) rfl ?_
        exact w_X2_payment_69 hf9 X hret 10000 p1 p2 (-1 : Int32) (0 : Int32) ((m34.1 (f + 4) p1.toNatClampNeg) &&& ((m34.1 (f + 4) p2.toNatClampNeg) ^^^ (-1 : Int32))) (0 : Int32) m34 hf
      · have hf := ie c37 hf
        refine g_bipush X (v := 8) dX2_payment_40 (by decide) ?_
        obtain ⟨rfl, rfl⟩ := lf2 hf
        exact hret 42 _ dX2_payment_42 rfl
    · have hf := ie c17 hf
      refine g_iconst X (v := -1) dX2_payment_20 (by decide) ?_
      obtain ⟨rfl, rfl⟩ := lf2 hf
      exact hret 21 _ dX2_payment_21 rfl

theorem kV_X2_61 : wcV RX2 61 RX2 yX2_time cX2_time 4 (some .int) 3 := ⟨q_ml_X2_61, q_im_yX2_time, q_se_yX2_time, q_in_X2, q_co_yX2_time, by decide +kernel⟩

theorem kV_X2_63 : wcV RX2 63 RX0 yX0_spend cX0_spend 3 (none) 2 := ⟨q_ml_X2_63, q_im_yX0_spend, q_se_yX0_spend, q_in_X0, q_co_yX0_spend, by decide +kernel⟩

def X2_deal_31 (nt : Nat) (z : Nat → Nat) (f : Nat) (v2 : Int32) (v3 : Int32) (v4 : Int32) (v5 : Int32) (v6 : Int32) (s0 : Int32) (m0 : Mem) : Option (Mem) :=
  bi (X2_time nt z f v3 v4 m0) fun r38 m38 =>
  bv (X0_spend f v2 s0 m38) fun m47 =>
  bv (X0_spend f v3 r38 m47) fun m54 =>
  if inn v2 6 then
  if inn v2 6 then
  if v6 = 0 then
    some (pI m54 (f + 4) v2.toNatClampNeg ((m54.1 (f + 4) v2.toNatClampNeg) ||| ((1 : Int32) <<< (v4 &&& 31))))
  else
    if inn v3 6 then
    if inn v3 6 then
    some (pI (pI m54 (f + 4) v2.toNatClampNeg ((m54.1 (f + 4) v2.toNatClampNeg) ||| ((1 : Int32) <<< (v4 &&& 31)))) (f + 4) v3.toNatClampNeg (((pI m54 (f + 4) v2.toNatClampNeg ((m54.1 (f + 4) v2.toNatClampNeg) ||| ((1 : Int32) <<< (v4 &&& 31)))).1 (f + 4) v3.toNatClampNeg) ||| ((1 : Int32) <<< (v5 &&& 31))))
    else none
    else none
  else none
  else none
def X2_deal_12 (nt : Nat) (z : Nat → Nat) (f : Nat) (v2 : Int32) (v3 : Int32) (v4 : Int32) (v5 : Int32) (s0 : Int32) (m0 : Mem) : Option (Mem) :=
  if s0 = 0 then
    X2_deal_31 nt z f v2 v3 v4 v5 s0 (0 : Int32) m0
  else
    bi (X2_time nt z f v2 v5 m0) fun r24 m24 =>
    X2_deal_31 nt z f v2 v3 v4 v5 s0 r24 m24
def X2_deal (nt : Nat) (z : Nat → Nat) (f : Nat) (p1 : Int32) (p2 : Int32) (p3 : Int32) (p4 : Int32) (m0 : Mem) : Option (Mem) :=
  if p4 = (8 : Int32) then
    X2_deal_12 nt z f p1 p2 p3 p4 (0 : Int32) m0
  else
    X2_deal_12 nt z f p1 p2 p3 p4 (1 : Int32) m0
abbrev rmX2_deal : Room := { frames := 4, cells := 0, slots := 0, locals := 113 }
set_option maxRecDepth 100000 in
set_option maxHeartbeats 4000000 in
theorem w_X2_deal_31 {Γ : Ga} {b : Nat} {ad : Nat → Nat} {nt : Nat} {z : Nat → Nat} {f : Nat} {m9 : Mem} (hf9 : isF f) (X : Cx Γ b cX2_deal 9 RX2 (none) rmX2_deal) (hret : ∀ (pc : Nat) (lv : List (Nat × Value)), decode cX2_deal pc = .ok (.return_, 1) → Go Γ b (sg ad nt z) 0 0 pc lv [] m9) (v2 : Int32) (v3 : Int32) (v4 : Int32) (v5 : Int32) (v6 : Int32) (s0 : Int32) (m0 : Mem) (hf : X2_deal_31 nt z f v2 v3 v4 v5 v6 s0 m0 = some m9) : Go Γ b (sg ad nt z) 0 0 31 [(0, .ref (ad 50)), (1, .ref (ad f)), (2, .int v2), (3, .int v3), (4, .int v4), (5, .int v5), (6, .int v6)] [.int s0] m0 := by
  refine g_istore X (lv' := [(7, .int s0), (0, .ref (ad 50)), (1, .ref (ad f)), (2, .int v2), (3, .int v3), (4, .int v4), (5, .int v5), (6, .int v6)]) dX2_deal_31 (by decide) rfl ?_
  refine g_aload_n X 1 dX2_deal_33 rfl rfl ?_
  refine g_aload_n X 2 dX2_deal_34 rfl rfl ?_
  refine g_iload_n X 4 dX2_deal_35 rfl rfl ?_
  refine g_iload X 5 dX2_deal_36 rfl ?_
  obtain ⟨r38, m38, h38, hf⟩ := bi_i hf
  refine g_eVI X 50 1 [.ref (ad f), .int v3, .int v4] kV_X2_61 (c_X2_time hf9 h38) dX2_deal_38 rfl rfl (sgN (by decide)) rfl (by decide) rfl rfl ⟨(Nat.le_of_ble_eq_true rfl), (Nat.le_of_ble_eq_true rfl)⟩ ⟨rfl, rfl⟩ ⟨(Nat.zero_le _), (Nat.zero_le _)⟩ (Nat.le_of_ble_eq_true rfl) ?_
  refine g_istore X (lv' := [(8, .int r38), (7, .int s0), (0, .ref (ad 50)), (1, .ref (ad f)), (2, .int v2), (3, .int v3), (4, .int v4), (5, .int v5), (6, .int v6)]) dX2_deal_41 (by decide) rfl ?_
  refine g_aload_n X 3 dX2_deal_43 rfl rfl ?_
  refine g_iload_n X 4 dX2_deal_44 rfl rfl ?_
  refine g_iload X 1 dX2_deal_45 rfl ?_
  obtain ⟨m47, h47, hf⟩ := bv_i hf
  refine g_eVV X f 0 [.int v2, .int s0] kV_X2_63 (c_X0_spend hf9 h47) dX2_deal_47 rfl rfl (F_lt0 hf9) (F_kd0 hf9) (by decide) rfl rfl ⟨(Nat.le_of_ble_eq_true rfl), (Nat.le_of_ble_eq_true rfl)⟩ ⟨rfl, rfl⟩ ⟨(Nat.zero_le _), (Nat.zero_le _)⟩ (Nat.le_of_ble_eq_true rfl) ?_
  refine g_aload_n X 3 dX2_deal_50 rfl rfl ?_
  refine g_iload_n X 5 dX2_deal_51 rfl rfl ?_
  refine g_iload X 0 dX2_deal_52 rfl ?_
  obtain ⟨m54, h54, hf⟩ := bv_i hf
  refine g_eVV X f 0 [.int v3, .int r38] kV_X2_63 (c_X0_spend hf9 h54) dX2_deal_54 rfl rfl (F_lt0 hf9) (F_kd0 hf9) (by decide) rfl rfl ⟨(Nat.le_of_ble_eq_true rfl), (Nat.le_of_ble_eq_true rfl)⟩ ⟨rfl, rfl⟩ ⟨(Nat.zero_le _), (Nat.zero_le _)⟩ (Nat.le_of_ble_eq_true rfl) ?_
  refine g_aload_n X 3 dX2_deal_57 rfl rfl ?_
  refine g_getr X (x := ad (f + 4)) f 0 6 dX2_deal_58 (F_lt0 hf9) (F_kd0 hf9) (by decide) rfl iw_X0 (by decide) rfl q_fl_X2_52 (F_r6 hf9) ?_
  refine g_iload_n X 4 dX2_deal_61 rfl rfl ?_
  refine g_dup2 X dX2_deal_62 rfl rfl ?_
  obtain ⟨h63, hf⟩ := grd hf
  refine g_iald X (f + 4) (n := 6) dX2_deal_63 (F_lt4 hf9) (F_kd4 hf9) (F_ln4 hf9) h63 ?_
  refine g_iconst X (v := 1) dX2_deal_64 (by decide) ?_
  refine g_iload X 6 dX2_deal_65 rfl ?_
  refine g_ishl X dX2_deal_67 ?_
  refine g_ior X dX2_deal_68 ?_
  obtain ⟨h69, hf⟩ := grd hf
  refine g_iast X (f + 4) (n := 6) dX2_deal_69 (F_lt4 hf9) (F_kd4 hf9) (F_ln4 hf9) h69 ?_
  refine g_iload X 8 dX2_deal_70 rfl ?_
  refine g_if_eq X (tgt := 88) dX2_deal_72 (by decide) (fun c72 => ?_) (fun c72 => ?_)
  · have hf := it c72 hf
    obtain rfl := lf1 hf
    exact hret 88 _ dX2_deal_88
  · have hf := ie c72 hf
    refine g_aload_n X 3 dX2_deal_75 rfl rfl ?_
    refine g_getr X (x := ad (f + 4)) f 0 6 dX2_deal_76 (F_lt0 hf9) (F_kd0 hf9) (by decide) rfl iw_X0 (by decide) rfl q_fl_X2_52 (F_r6 hf9) ?_
    refine g_iload_n X 5 dX2_deal_79 rfl rfl ?_
    refine g_dup2 X dX2_deal_80 rfl rfl ?_
    obtain ⟨h81, hf⟩ := grd hf
    refine g_iald X (f + 4) (n := 6) dX2_deal_81 (F_lt4 hf9) (F_kd4 hf9) (F_ln4 hf9) h81 ?_
    refine g_iconst X (v := 1) dX2_deal_82 (by decide) ?_
    refine g_iload X 7 dX2_deal_83 rfl ?_
    refine g_ishl X dX2_deal_85 ?_
    refine g_ior X dX2_deal_86 ?_
    obtain ⟨h87, hf⟩ := grd hf
    refine g_iast X (f + 4) (n := 6) dX2_deal_87 (F_lt4 hf9) (F_kd4 hf9) (F_ln4 hf9) h87 ?_
    obtain rfl := lf1 hf
    exact hret 88 _ dX2_deal_88
set_option maxRecDepth 100000 in
set_option maxHeartbeats 4000000 in
theorem w_X2_deal_12 {Γ : Ga} {b : Nat} {ad : Nat → Nat} {nt : Nat} {z : Nat → Nat} {f : Nat} {m9 : Mem} (hf9 : isF f) (X : Cx Γ b cX2_deal 9 RX2 (none) rmX2_deal) (hret : ∀ (pc : Nat) (lv : List (Nat × Value)), decode cX2_deal pc = .ok (.return_, 1) → Go Γ b (sg ad nt z) 0 0 pc lv [] m9) (v2 : Int32) (v3 : Int32) (v4 : Int32) (v5 : Int32) (s0 : Int32) (m0 : Mem) (hf : X2_deal_12 nt z f v2 v3 v4 v5 s0 m0 = some m9) : Go Γ b (sg ad nt z) 0 0 12 [(0, .ref (ad 50)), (1, .ref (ad f)), (2, .int v2), (3, .int v3), (4, .int v4), (5, .int v5)] [.int s0] m0 := by
  refine g_istore X (lv' := [(6, .int s0), (0, .ref (ad 50)), (1, .ref (ad f)), (2, .int v2), (3, .int v3), (4, .int v4), (5, .int v5)]) dX2_deal_12 (by decide) rfl ?_
  refine g_iload X 0 dX2_deal_14 rfl ?_
  refine g_if_eq X (tgt := 30) dX2_deal_16 (by decide) (fun c16 => ?_) (fun c16 => ?_)
  · have hf := it c16 hf
    refine g_iconst X (v := 0) dX2_deal_30 (by decide) ?_
    refine g_pick [1, 2, 3, 4, 5, 6, 0] (lv' := [(0, .ref (ad 50)), (1, .ref (ad f)), (2, .int v2), (3, .int v3), (4, .int v4), (5, .int v5), (6, .int s0)]) rfl ?_
    exact w_X2_deal_31 hf9 X hret v2 v3 v4 v5 s0 (0 : Int32) m0 hf
  · have hf := ie c16 hf
    refine g_aload_n X 1 dX2_deal_19 rfl rfl ?_
    refine g_aload_n X 2 dX2_deal_20 rfl rfl ?_
    refine g_iload_n X 3 dX2_deal_21 rfl rfl ?_
    refine g_iload X 6 dX2_deal_22 rfl ?_
    obtain ⟨r24, m24, h24, hf⟩ := bi_i hf
    refine g_eVI X 50 1 [.ref (ad f), .int v2, .int v5] kV_X2_61 (c_X2_time hf9 h24) dX2_deal_24 rfl rfl (sgN (by decide)) rfl (by decide) rfl rfl ⟨(Nat.le_of_ble_eq_true rfl), (Nat.le_of_ble_eq_true rfl)⟩ ⟨rfl, rfl⟩ ⟨(Nat.zero_le _), (Nat.zero_le _)⟩ (Nat.le_of_ble_eq_true rfl) ?_
    refine g_goto X (tgt := 31) dX2_deal_27 (by decide) ?_
    refine g_pick [1, 2, 3, 4, 5, 6, 0] (lv' := [(0, .ref (ad 50)), (1, .ref (ad f)), (2, .int v2), (3, .int v3), (4, .int v4), (5, .int v5), (6, .int s0)]) rfl ?_
    exact w_X2_deal_31 hf9 X hret v2 v3 v4 v5 s0 r24 m24 hf
set_option maxRecDepth 100000 in
set_option maxHeartbeats 4000000 in
theorem c_X2_deal {l : Launch} {G : GG} {b : Nat} {ad : Nat → Nat} {nt : Nat} {z : Nat → Nat} {f : Nat} {p1 : Int32} {p2 : Int32} {p3 : Int32} {p4 : Int32} {m0 : Mem} {m9 : Mem} (hf9 : isF f) (hf : X2_deal nt z f p1 p2 p3 p4 m0 = some m9) : MtV l yX2_deal cX2_deal 9 (none) rmX2_deal G b (sg ad nt z) m0 [.ref (ad 50), .ref (ad f), .int p1, .int p2, .int p3, .int p4] (pEV (sg ad nt z) m9) := by
  refine mtV_of (by decide) (Nat.le_of_ble_eq_true rfl) rfl (fun Γ hG X hnm hr => ?_)
  have hret : ∀ (pc : Nat) (lv : List (Nat × Value)), decode cX2_deal pc = .ok (.return_, 1) → Go Γ b (sg ad nt z) 0 0 pc lv [] m9 := fun pc lv d => hr pc lv _ _ d ⟨rfl, rfl⟩
  show Go Γ b (sg ad nt z) 0 0 0 [(0, .ref (ad 50)), (1, .ref (ad f)), (2, .int p1), (3, .int p2), (4, .int p3), (5, .int p4)] [] m0
  refine g_iload X 5 dX2_deal_0 rfl ?_
  refine g_bipush X (v := 8) dX2_deal_2 (by decide) ?_
  refine g_icmp_eq X (tgt := 11) dX2_deal_4 (by decide) (fun c4 => ?_) (fun c4 => ?_)
  · have hf := it c4 hf
    refine g_iconst X (v := 0) dX2_deal_11 (by decide) ?_
    exact w_X2_deal_12 hf9 X hret p1 p2 p3 p4 (0 : Int32) m0 hf
  · have hf := ie c4 hf
    refine g_iconst X (v := 1) dX2_deal_7 (by decide) ?_
    refine g_goto X (tgt := 12) dX2_deal_8 (by decide) ?_
    exact w_X2_deal_12 hf9 X hret p1 p2 p3 p4 (1 : Int32) m0 hf

def X2_firstAsked_34 (f : Nat) : Nat → Int32 → Int32 → Mem → Option (Int32 × Mem)
  | 0, _, _, _ => none
  | n + 1, v4, v5, m0 =>
    if (8 : Int32) ≤ v5 then
      some ((-1 : Int32), m0)
    else
      if ((v4 >>> (v5 &&& 31)) &&& (1 : Int32)) = 0 then
        X2_firstAsked_34 f n v4 (v5 + (1 : Int32)) m0
      else
        some (v5, m0)
def X2_firstAsked (f : Nat) (p1 : Int32) (p2 : Int32) (m0 : Mem) : Option (Int32 × Mem) :=
  if inn p1 6 then
  if inn p2 6 then
  if inn p1 6 then
  if (((m0.1 (f + 5) p1.toNatClampNeg) &&& (m0.1 (f + 4) p2.toNatClampNeg)) &&& ((m0.1 (f + 4) p1.toNatClampNeg) ^^^ (-1 : Int32))) = 0 then
    some ((-1 : Int32), m0)
  else
    X2_firstAsked_34 f 10000 (((m0.1 (f + 5) p1.toNatClampNeg) &&& (m0.1 (f + 4) p2.toNatClampNeg)) &&& ((m0.1 (f + 4) p1.toNatClampNeg) ^^^ (-1 : Int32))) (0 : Int32) m0
  else none
  else none
  else none
abbrev rmX2_firstAsked : Room := { frames := 0, cells := 0, slots := 0, locals := 0 }
set_option maxRecDepth 100000 in
set_option maxHeartbeats 4000000 in
theorem w_X2_firstAsked_34 {Γ : Ga} {b : Nat} {ad : Nat → Nat} {nt : Nat} {z : Nat → Nat} {f : Nat} {r9 : Int32} {m9 : Mem} (hf9 : isF f) (X : Cx Γ b cX2_firstAsked 6 RX2 (some .int) rmX2_firstAsked) (hret : ∀ (pc : Nat) (lv : List (Nat × Value)), decode cX2_firstAsked pc = .ok (.ireturn, 1) → narrow .int (.int r9) = .int r9 → Go Γ b (sg ad nt z) 0 0 pc lv [.int r9] m9) : ∀ (n : Nat) (v4 : Int32) (v5 : Int32) (m0 : Mem), X2_firstAsked_34 f n v4 v5 m0 = some (r9, m9) → Go Γ b (sg ad nt z) 0 0 34 [(4, .int v4), (5, .int v5)] [] m0 := by
  intro n
  induction n with
  | zero =>
    intro v4 v5 m0 hf
    cases hf
  | succ n ih =>
    intro v4 v5 m0 hf
    refine g_iload X 1 dX2_firstAsked_34 rfl ?_
    refine g_bipush X (v := 8) dX2_firstAsked_36 (by decide) ?_
    refine g_icmp_ge X (tgt := 60) dX2_firstAsked_38 (by decide) (fun c38 => ?_) (fun c38 => ?_)
    · have hf := it c38 hf
      refine g_iconst X (v := -1) dX2_firstAsked_60 (by decide) ?_
      obtain ⟨rfl, rfl⟩ := lf2 hf
      exact hret 61 _ dX2_firstAsked_61 rfl
    · have hf := ie c38 hf
      refine g_iload X 0 dX2_firstAsked_41 rfl ?_
      refine g_iload X 1 dX2_firstAsked_43 rfl ?_
      refine g_ishr X dX2_firstAsked_45 ?_
      refine g_iconst X (v := 1) dX2_firstAsked_46 (by decide) ?_
      refine g_iand X dX2_firstAsked_47 ?_
      refine g_if_eq X (tgt := 54) dX2_firstAsked_48 (by decide) (fun c48 => ?_) (fun c48 => ?_)
      · have hf := it c48 hf
        refine g_iinc X 1 (v := v5 + (1 : Int32)) (lv' := [(5, .int (v5 + (1 : Int32))), (4, .int v4)]) dX2_firstAsked_54 rfl rfl (by decide) rfl ?_
        refine g_goto X (tgt := 34) dX2_firstAsked_57 (by decide) ?_
        refine g_pick [1, 0] (lv' := [(4, .int v4), (5, .int (v5 + (1 : Int32)))]) rfl ?_
        exact ih v4 (v5 + (1 : Int32)) m0 hf
      · have hf := ie c48 hf
        refine g_iload X 1 dX2_firstAsked_51 rfl ?_
        obtain ⟨rfl, rfl⟩ := lf2 hf
        exact hret 53 _ dX2_firstAsked_53 rfl
set_option maxRecDepth 100000 in
set_option maxHeartbeats 4000000 in
theorem c_X2_firstAsked {l : Launch} {G : GG} {b : Nat} {ad : Nat → Nat} {nt : Nat} {z : Nat → Nat} {f : Nat} {p1 : Int32} {p2 : Int32} {m0 : Mem} {r9 : Int32} {m9 : Mem} (hf9 : isF f) (hf : X2_firstAsked f p1 p2 m0 = some (r9, m9)) : MtI l yX2_firstAsked cX2_firstAsked 6 (some .int) rmX2_firstAsked G b (sg ad nt z) m0 [.ref (ad 50), .ref (ad f), .int p1, .int p2] (pEI r9 (sg ad nt z) m9) := by
  refine mtI_of (by decide) (Nat.le_of_ble_eq_true rfl) .int rfl (fun Γ hG X hnm hr => ?_)
  have hret : ∀ (pc : Nat) (lv : List (Nat × Value)), decode cX2_firstAsked pc = .ok (.ireturn, 1) → narrow .int (.int r9) = .int r9 → Go Γ b (sg ad nt z) 0 0 pc lv [.int r9] m9 := fun pc lv d hn => hr pc lv _ _ _ d ⟨rfl, rfl, rfl⟩ hn
  show Go Γ b (sg ad nt z) 0 0 0 [(0, .ref (ad 50)), (1, .ref (ad f)), (2, .int p1), (3, .int p2)] [] m0
  refine g_aload_n X 1 dX2_firstAsked_0 rfl rfl ?_
  refine g_getr X (x := ad (f + 5)) f 0 7 dX2_firstAsked_1 (F_lt0 hf9) (F_kd0 hf9) (by decide) rfl iw_X0 (by decide) rfl q_fl_X2_95 (F_r7 hf9) ?_
  refine g_iload_n X 2 dX2_firstAsked_4 rfl rfl ?_
  obtain ⟨h5, hf⟩ := grd hf
  refine g_iald X (f + 5) (n := 6) dX2_firstAsked_5 (F_lt5 hf9) (F_kd5 hf9) (F_ln5 hf9) h5 ?_
  refine g_aload_n X 1 dX2_firstAsked_6 rfl rfl ?_
  refine g_getr X (x := ad (f + 4)) f 0 6 dX2_firstAsked_7 (F_lt0 hf9) (F_kd0 hf9) (by decide) rfl iw_X0 (by decide) rfl q_fl_X2_52 (F_r6 hf9) ?_
  refine g_iload_n X 3 dX2_firstAsked_10 rfl rfl ?_
  obtain ⟨h11, hf⟩ := grd hf
  refine g_iald X (f + 4) (n := 6) dX2_firstAsked_11 (F_lt4 hf9) (F_kd4 hf9) (F_ln4 hf9) h11 ?_
  refine g_iand X dX2_firstAsked_12 ?_
  refine g_aload_n X 1 dX2_firstAsked_13 rfl rfl ?_
  refine g_getr X (x := ad (f + 4)) f 0 6 dX2_firstAsked_14 (F_lt0 hf9) (F_kd0 hf9) (by decide) rfl iw_X0 (by decide) rfl q_fl_X2_52 (F_r6 hf9) ?_
  refine g_iload_n X 2 dX2_firstAsked_17 rfl rfl ?_
  obtain ⟨h18, hf⟩ := grd hf
  refine g_iald X (f + 4) (n := 6) dX2_firstAsked_18 (F_lt4 hf9) (F_kd4 hf9) (F_ln4 hf9) h18 ?_
  refine g_iconst X (v := -1) dX2_firstAsked_19 (by decide) ?_
  refine g_ixor X dX2_firstAsked_20 ?_
  refine g_iand X dX2_firstAsked_21 ?_
  refine g_istore X (lv' := [(4, .int (((m0.1 (f + 5) p1.toNatClampNeg) &&& (m0.1 (f + 4) p2.toNatClampNeg)) &&& ((m0.1 (f + 4) p1.toNatClampNeg) ^^^ (-1 : Int32)))), (0, .ref (ad 50)), (1, .ref (ad f)), (2, .int p1), (3, .int p2)]) dX2_firstAsked_22 (by decide) rfl ?_
  refine g_iload X 0 dX2_firstAsked_24 rfl ?_
  refine g_if_ne X (tgt := 31) dX2_firstAsked_26 (by decide) (fun c26 => ?_) (fun c26 => ?_)
  · have hf := ie c26 hf
    refine g_iconst X (v := 0) dX2_firstAsked_31 (by decide) ?_
    refine g_istore X (lv' := [(5, .int (0 : Int32)), (4, .int (((m0.1 (f + 5) p1.toNatClampNeg) &&& (m0.1 (f + 4) p2.toNatClampNeg)) &&& ((m0.1 (f + 4) p1.toNatClampNeg) ^^^ (-1 : Int32)))), (0, .ref (ad 50)), (1, .ref (ad f)), (2, .int p1), (3, .int p2)]) dX2_firstAsked_32 (by decide) rfl ?_
    refine g_pick [1, 0] (lv' := [(4, .int (((m0.1 (f + 5) p1.toNatClampNeg) &&& (m0.1 (f + 4) p2.toNatClampNeg)) &&& ((m0.1 (f + 4) p1.toNatClampNeg) ^^^ (-1 : Int32)))), (5, .int (0 : Int32))]) rfl ?_
    exact w_X2_firstAsked_34 hf9 X hret 10000 (((m0.1 (f + 5) p1.toNatClampNeg) &&& (m0.1 (f + 4) p2.toNatClampNeg)) &&& ((m0.1 (f + 4) p1.toNatClampNeg) ^^^ (-1 : Int32))) (0 : Int32) m0 hf
  · have hf := it c26 hf
    refine g_iconst X (v := -1) dX2_firstAsked_29 (by decide) ?_
    obtain ⟨rfl, rfl⟩ := lf2 hf
    exact hret 30 _ dX2_firstAsked_30 rfl

def X5_namesRound (nt : Nat) (z : Nat → Nat) (p0 : Int32) (m0 : Mem) : Option (Int32 × Mem) :=
  if inn p0 6 then
  if p0.toNatClampNeg ≤ nt then
    wi (tid p0.toNatClampNeg) fun w5 =>
    if (m0.1 w5 3) = 0 then
      some ((0 : Int32), m0)
    else
      some ((1 : Int32), m0)
  else
    some ((1 : Int32), m0)
  else none
abbrev rmX5_namesRound : Room := { frames := 0, cells := 0, slots := 0, locals := 0 }

set_option maxRecDepth 100000 in
set_option maxHeartbeats 4000000 in
theorem c_X5_namesRound {l : Launch} {G : GG} {b : Nat} {ad : Nat → Nat} {nt : Nat} {z : Nat → Nat} {p0 : Int32} {m0 : Mem} {r9 : Int32} {m9 : Mem} (hf : X5_namesRound nt z p0 m0 = some (r9, m9)) : MtI l yX5_namesRound cX5_namesRound 3 (some .boolean) rmX5_namesRound G b (sg ad nt z) m0 [.ref (ad 33), .int p0] (pEI r9 (sg ad nt z) m9) := by
  refine mtI_of (by decide) (Nat.le_of_ble_eq_true rfl) .boolean rfl (fun Γ hG X hnm hr => ?_)
  have hret : ∀ (pc : Nat) (lv : List (Nat × Value)), decode cX5_namesRound pc = .ok (.ireturn, 1) → narrow .boolean (.int r9) = .int r9 → Go Γ b (sg ad nt z) 0 0 pc lv [.int r9] m9 := fun pc lv d hn => hr pc lv _ _ _ d ⟨rfl, rfl, rfl⟩ hn
  show Go Γ b (sg ad nt z) 0 0 0 [(0, .ref (ad 33)), (1, .int p0)] [] m0
  refine g_aload_n X 0 dX5_namesRound_0 rfl rfl ?_
  refine g_getr X (x := ad 34) 33 4 1 dX5_namesRound_1 (sgN (by decide)) rfl (by decide) rfl iw_X5 (by decide) rfl q_fl_X5_11 rfl ?_
  refine g_iload_n X 1 dX5_namesRound_4 rfl rfl ?_
  obtain ⟨h5, hf⟩ := grd hf
  by_cases c5 : p0.toNatClampNeg ≤ nt
  · have hf := it c5 hf
    obtain ⟨w5, ew5, hf⟩ := wi_i hf
    have fw5 : isT nt w5 := ⟨_, c5, ew5⟩
    refine g_aaldr13 X 34 (n := 6) (x := ad w5) dX5_namesRound_5 (sgN (by decide)) rfl rfl h5 (by rw [ew5]; exact T_at c5) ?_
    refine g_astore_n X (lv' := [(2, .ref (ad w5)), (0, .ref (ad 33)), (1, .int p0)]) dX5_namesRound_6 rfl (by decide) rfl ?_
    refine g_aload_n X 0 dX5_namesRound_7 rfl rfl ?_
    refine g_ifnull X dX5_namesRound_8 ?_
    refine g_aload_n X 0 dX5_namesRound_11 rfl rfl ?_
    refine g_getI X w5 6 3 dX5_namesRound_12 (T_lt0 fw5) (T_kd0 fw5) (by decide) rfl iw_X7 (by decide) rfl q_fl_X5_111 ?_
    refine g_if_eq X (tgt := 22) dX5_namesRound_15 (by decide) (fun c15 => ?_) (fun c15 => ?_)
    · have hf := it c15 hf
      refine g_iconst X (v := 0) dX5_namesRound_22 (by decide) ?_
      obtain ⟨rfl, rfl⟩ := lf2 hf
      exact hret 23 _ dX5_namesRound_23 rfl
    · have hf := ie c15 hf
      refine g_iconst X (v := 1) dX5_namesRound_18 (by decide) ?_
      refine g_goto X (tgt := 23) dX5_namesRound_19 (by decide) ?_
      obtain ⟨rfl, rfl⟩ := lf2 hf
      exact hret 23 _ dX5_namesRound_23 rfl
  · have hf := ie c5 hf
    refine g_aaldn13 X 34 (n := 6) dX5_namesRound_5 (sgN (by decide)) rfl rfl h5 (T_no c5) ?_
    refine g_astore_nN X (lv' := [(2, .null), (0, .ref (ad 33)), (1, .int p0)]) dX5_namesRound_6 rfl (by decide) rfl ?_
    refine g_aload_nN X 0 dX5_namesRound_7 rfl rfl ?_
    refine g_ifnullN X (tgt := 18) dX5_namesRound_8 (by decide) ?_
    refine g_iconst X (v := 1) dX5_namesRound_18 (by decide) ?_
    refine g_goto X (tgt := 23) dX5_namesRound_19 (by decide) ?_
    obtain ⟨rfl, rfl⟩ := lf2 hf
    exact hret 23 _ dX5_namesRound_23 rfl

theorem kV_X2_91 : wcV RX2 91 RX5 yX5_namesRound cX5_namesRound 3 (some .boolean) 1 := ⟨q_ml_X2_91, q_im_yX5_namesRound, q_se_yX5_namesRound, q_in_X5, q_co_yX5_namesRound, by decide +kernel⟩

def X2_restsForGood (nt : Nat) (z : Nat → Nat) (f : Nat) (m0 : Mem) : Option (Int32 × Mem) :=
  bi (X5_namesRound nt z (m0.1 f 2) m0) fun r8 m8 =>
  if r8 = 0 then
    some ((1 : Int32), m8)
  else
    some ((0 : Int32), m8)
abbrev rmX2_restsForGood : Room := { frames := 1, cells := 0, slots := 0, locals := 22 }

set_option maxRecDepth 100000 in
set_option maxHeartbeats 4000000 in
theorem c_X2_restsForGood {l : Launch} {G : GG} {b : Nat} {ad : Nat → Nat} {nt : Nat} {z : Nat → Nat} {f : Nat} {m0 : Mem} {r9 : Int32} {m9 : Mem} (hf9 : isF f) (hf : X2_restsForGood nt z f m0 = some (r9, m9)) : MtI l yX2_restsForGood cX2_restsForGood 2 (some .boolean) rmX2_restsForGood G b (sg ad nt z) m0 [.ref (ad 50), .ref (ad f)] (pEI r9 (sg ad nt z) m9) := by
  refine mtI_of (by decide) (Nat.le_of_ble_eq_true rfl) .boolean rfl (fun Γ hG X hnm hr => ?_)
  have hret : ∀ (pc : Nat) (lv : List (Nat × Value)), decode cX2_restsForGood pc = .ok (.ireturn, 1) → narrow .boolean (.int r9) = .int r9 → Go Γ b (sg ad nt z) 0 0 pc lv [.int r9] m9 := fun pc lv d hn => hr pc lv _ _ _ d ⟨rfl, rfl, rfl⟩ hn
  show Go Γ b (sg ad nt z) 0 0 0 [(0, .ref (ad 50)), (1, .ref (ad f))] [] m0
  refine g_aload_n X 0 dX2_restsForGood_0 rfl rfl ?_
  refine g_getr X (x := ad 33) 50 1 0 dX2_restsForGood_1 (sgN (by decide)) rfl (by decide) rfl iw_X2 (by decide) rfl q_fl_X2_9 rfl ?_
  refine g_aload_n X 1 dX2_restsForGood_4 rfl rfl ?_
  refine g_getI X f 0 2 dX2_restsForGood_5 (F_lt0 hf9) (F_kd0 hf9) (by decide) rfl iw_X0 (by decide) rfl q_fl_X2_88 ?_
  obtain ⟨r8, m8, h8, hf⟩ := bi_i hf
  refine g_eVI X 33 4 [.int (m0.1 f 2)] kV_X2_91 (c_X5_namesRound h8) dX2_restsForGood_8 rfl rfl (sgN (by decide)) rfl (by decide) rfl rfl ⟨(Nat.le_of_ble_eq_true rfl), (Nat.le_of_ble_eq_true rfl)⟩ ⟨rfl, rfl⟩ ⟨(Nat.zero_le _), (Nat.zero_le _)⟩ (Nat.le_of_ble_eq_true rfl) ?_
  refine g_if_ne X (tgt := 18) dX2_restsForGood_11 (by decide) (fun c11 => ?_) (fun c11 => ?_)
  · have hf := ie c11 hf
    refine g_iconst X (v := 0) dX2_restsForGood_18 (by decide) ?_
    obtain ⟨rfl, rfl⟩ := lf2 hf
    exact hret 19 _ dX2_restsForGood_19 rfl
  · have hf := it c11 hf
    refine g_iconst X (v := 1) dX2_restsForGood_14 (by decide) ?_
    refine g_goto X (tgt := 19) dX2_restsForGood_15 (by decide) ?_
    obtain ⟨rfl, rfl⟩ := lf2 hf
    exact hret 19 _ dX2_restsForGood_19 rfl

theorem kV_X2_84 : wcV RX2 84 RX2 yX2_restsForGood cX2_restsForGood 2 (some .boolean) 1 := ⟨q_ml_X2_84, q_im_yX2_restsForGood, q_se_yX2_restsForGood, q_in_X2, q_co_yX2_restsForGood, by decide +kernel⟩

theorem kV_X2_71 : wcV RX2 71 RX2 yX2_firstAsked cX2_firstAsked 6 (some .int) 3 := ⟨q_ml_X2_71, q_im_yX2_firstAsked, q_se_yX2_firstAsked, q_in_X2, q_co_yX2_firstAsked, by decide +kernel⟩

theorem kV_X2_74 : wcV RX2 74 RX2 yX2_payment cX2_payment 10 (some .int) 4 := ⟨q_ml_X2_74, q_im_yX2_payment, q_se_yX2_payment, q_in_X2, q_co_yX2_payment, by decide +kernel⟩

theorem kV_X2_77 : wcV RX2 77 RX2 yX2_deal cX2_deal 9 (none) 5 := ⟨q_ml_X2_77, q_im_yX2_deal, q_se_yX2_deal, q_in_X2, q_co_yX2_deal, by decide +kernel⟩

def X2_rounds_161 (nt : Nat) (z : Nat → Nat) (f : Nat) (k6 : Int32 → Int32 → Int32 → Int32 → Mem → Option (Int32 × Mem)) (v2 : Int32) (v3 : Int32) (v4 : Int32) (v5 : Int32) (m0 : Mem) : Option (Int32 × Mem) :=
  k6 v2 v3 v4 (v5 + (1 : Int32)) m0
def X2_rounds_121 (nt : Nat) (z : Nat → Nat) (f : Nat) (k6 : Int32 → Int32 → Int32 → Int32 → Mem → Option (Int32 × Mem)) (k19 : Int32 → Int32 → Int32 → Int32 → Int32 → Int32 → Mem → Option (Int32 × Mem)) (k31 : Int32 → Int32 → Int32 → Int32 → Int32 → Int32 → Int32 → Mem → Option (Int32 × Mem)) (v2 : Int32) (v3 : Int32) (v4 : Int32) (v5 : Int32) (v6 : Int32) (v7 : Int32) (v8 : Int32) (m0 : Mem) : Option (Int32 × Mem) :=
  k31 v2 v3 v4 v5 v6 v7 (v8 + (1 : Int32)) m0
def X2_rounds_94 (nt : Nat) (z : Nat → Nat) (f : Nat) (k6 : Int32 → Int32 → Int32 → Int32 → Mem → Option (Int32 × Mem)) (k19 : Int32 → Int32 → Int32 → Int32 → Int32 → Int32 → Mem → Option (Int32 × Mem)) (k31 : Int32 → Int32 → Int32 → Int32 → Int32 → Int32 → Int32 → Mem → Option (Int32 × Mem)) (v2 : Int32) (v3 : Int32) (v4 : Int32) (v5 : Int32) (v6 : Int32) (v7 : Int32) (v8 : Int32) (v9 : Int32) (s0 : Int32) (m0 : Mem) : Option (Int32 × Mem) :=
  if s0 = (-1 : Int32) then
    X2_rounds_121 nt z f k6 k19 k31 v2 v3 v4 v5 v6 v7 v8 m0
  else
    bv (X2_deal nt z f v7 v8 v9 s0 m0) fun m115 =>
    X2_rounds_121 nt z f k6 k19 k31 v2 v3 (v4 + (1 : Int32)) v5 v6 v7 v8 m115
def X2_rounds_31 (nt : Nat) (z : Nat → Nat) (f : Nat) (k6 : Int32 → Int32 → Int32 → Int32 → Mem → Option (Int32 × Mem)) (k19 : Int32 → Int32 → Int32 → Int32 → Int32 → Int32 → Mem → Option (Int32 × Mem)) : Nat → Int32 → Int32 → Int32 → Int32 → Int32 → Int32 → Int32 → Mem → Option (Int32 × Mem)
  | 0, _, _, _, _, _, _, _, _ => none
  | n + 1, v2, v3, v4, v5, v6, v7, v8, m0 =>
    if (m0.1 f 0) ≤ v8 then
      k19 v2 v3 v4 v5 v6 (v7 + (1 : Int32)) m0
    else
      if v7 = v8 then
        X2_rounds_121 nt z f k6 k19 (X2_rounds_31 nt z f k6 k19 n) v2 v3 v4 v5 v6 v7 v8 m0
      else
        if v7 = v3 then
          X2_rounds_121 nt z f k6 k19 (X2_rounds_31 nt z f k6 k19 n) v2 v3 v4 v5 v6 v7 v8 m0
        else
          if v8 = v3 then
            X2_rounds_121 nt z f k6 k19 (X2_rounds_31 nt z f k6 k19 n) v2 v3 v4 v5 v6 v7 v8 m0
          else
            bi (X2_firstAsked f v7 v8 m0) fun r68 m68 =>
            if r68 = (-1 : Int32) then
              X2_rounds_94 nt z f k6 k19 (X2_rounds_31 nt z f k6 k19 n) v2 v3 v4 v5 v6 v7 v8 r68 (-1 : Int32) m68
            else
              bi (X2_payment nt z f v7 v8 r68 m68) fun r91 m91 =>
              X2_rounds_94 nt z f k6 k19 (X2_rounds_31 nt z f k6 k19 n) v2 v3 v4 v5 v6 v7 v8 r68 r91 m91
def X2_rounds_19 (nt : Nat) (z : Nat → Nat) (f : Nat) (k6 : Int32 → Int32 → Int32 → Int32 → Mem → Option (Int32 × Mem)) : Nat → Int32 → Int32 → Int32 → Int32 → Int32 → Int32 → Mem → Option (Int32 × Mem)
  | 0, _, _, _, _, _, _, _ => none
  | n + 1, v2, v3, v4, v5, v6, v7, m0 =>
    if (m0.1 f 0) ≤ v7 then
      if v4 = v6 then
        bi (X2_restsForGood nt z f (pI m0 f 1 ((m0.1 f 1) + (1 : Int32)))) fun r152 m152 =>
        if r152 = 0 then
          X2_rounds_161 nt z f k6 v2 v3 v4 v5 m152
        else
          some (v4, m152)
      else
        X2_rounds_161 nt z f k6 v2 v3 v4 v5 (pI m0 f 1 ((m0.1 f 1) + (1 : Int32)))
    else
      X2_rounds_31 nt z f k6 (X2_rounds_19 nt z f k6 n) 10000 v2 v3 v4 v5 v6 v7 (0 : Int32) m0
def X2_rounds_6 (nt : Nat) (z : Nat → Nat) (f : Nat) : Nat → Int32 → Int32 → Int32 → Int32 → Mem → Option (Int32 × Mem)
  | 0, _, _, _, _, _ => none
  | n + 1, v2, v3, v4, v5, m0 =>
    if v2 ≤ v5 then
      some (v4, m0)
    else
      X2_rounds_19 nt z f (X2_rounds_6 nt z f n) 10000 v2 v3 v4 v5 v4 (0 : Int32) m0
def X2_rounds (nt : Nat) (z : Nat → Nat) (f : Nat) (p1 : Int32) (p2 : Int32) (m0 : Mem) : Option (Int32 × Mem) :=
  X2_rounds_6 nt z f 10000 p1 p2 (0 : Int32) (0 : Int32) m0
abbrev rmX2_rounds : Room := { frames := 5, cells := 0, slots := 0, locals := 142 }
set_option maxRecDepth 100000 in
set_option maxHeartbeats 4000000 in
theorem w_X2_rounds_161 {Γ : Ga} {b : Nat} {ad : Nat → Nat} {nt : Nat} {z : Nat → Nat} {f : Nat} {k6 : Int32 → Int32 → Int32 → Int32 → Mem → Option (Int32 × Mem)} {r9 : Int32} {m9 : Mem} (hf9 : isF f) (X : Cx Γ b cX2_rounds 11 RX2 (some .int) rmX2_rounds) (hret : ∀ (pc : Nat) (lv : List (Nat × Value)), decode cX2_rounds pc = .ok (.ireturn, 1) → narrow .int (.int r9) = .int r9 → Go Γ b (sg ad nt z) 0 0 pc lv [.int r9] m9) (hk6 : ∀ (v2 : Int32) (v3 : Int32) (v4 : Int32) (v5 : Int32) (m0 : Mem), k6 v2 v3 v4 v5 m0 = some (r9, m9) → Go Γ b (sg ad nt z) 0 0 6 [(0, .ref (ad 50)), (1, .ref (ad f)), (2, .int v2), (3, .int v3), (4, .int v4), (5, .int v5)] [] m0) (v2 : Int32) (v3 : Int32) (v4 : Int32) (v5 : Int32) (m0 : Mem) (hf : X2_rounds_161 nt z f k6 v2 v3 v4 v5 m0 = some (r9, m9)) : Go Γ b (sg ad nt z) 0 0 161 [(0, .ref (ad 50)), (1, .ref (ad f)), (2, .int v2), (3, .int v3), (4, .int v4), (5, .int v5)] [] m0 := by
  refine g_iinc X 5 (v := v5 + (1 : Int32)) (lv' := [(5, .int (v5 + (1 : Int32))), (0, .ref (ad 50)), (1, .ref (ad f)), (2, .int v2), (3, .int v3), (4, .int v4)]) dX2_rounds_161 rfl rfl (by decide) rfl ?_
  refine g_goto X (tgt := 6) dX2_rounds_164 (by decide) ?_
  refine g_pick [1, 2, 3, 4, 5, 0] (lv' := [(0, .ref (ad 50)), (1, .ref (ad f)), (2, .int v2), (3, .int v3), (4, .int v4), (5, .int (v5 + (1 : Int32)))]) rfl ?_
  exact hk6 v2 v3 v4 (v5 + (1 : Int32)) m0 hf
set_option maxRecDepth 100000 in
set_option maxHeartbeats 4000000 in
theorem w_X2_rounds_121 {Γ : Ga} {b : Nat} {ad : Nat → Nat} {nt : Nat} {z : Nat → Nat} {f : Nat} {k6 : Int32 → Int32 → Int32 → Int32 → Mem → Option (Int32 × Mem)} {k19 : Int32 → Int32 → Int32 → Int32 → Int32 → Int32 → Mem → Option (Int32 × Mem)} {k31 : Int32 → Int32 → Int32 → Int32 → Int32 → Int32 → Int32 → Mem → Option (Int32 × Mem)} {r9 : Int32} {m9 : Mem} (hf9 : isF f) (X : Cx Γ b cX2_rounds 11 RX2 (some .int) rmX2_rounds) (hret : ∀ (pc : Nat) (lv : List (Nat × Value)), decode cX2_rounds pc = .ok (.ireturn, 1) → narrow .int (.int r9) = .int r9 → Go Γ b (sg ad nt z) 0 0 pc lv [.int r9] m9) (hk6 : ∀ (v2 : Int32) (v3 : Int32) (v4 : Int32) (v5 : Int32) (m0 : Mem), k6 v2 v3 v4 v5 m0 = some (r9, m9) → Go Γ b (sg ad nt z) 0 0 6 [(0, .ref (ad 50)), (1, .ref (ad f)), (2, .int v2), (3, .int v3), (4, .int v4), (5, .int v5)] [] m0) (hk19 : ∀ (v2 : Int32) (v3 : Int32) (v4 : Int32) (v5 : Int32) (v6 : Int32) (v7 : Int32) (m0 : Mem), k19 v2 v3 v4 v5 v6 v7 m0 = some (r9, m9) → Go Γ b (sg ad nt z) 0 0 19 [(0, .ref (ad 50)), (1, .ref (ad f)), (2, .int v2), (3, .int v3), (4, .int v4), (5, .int v5), (6, .int v6), (7, .int v7)] [] m0) (hk31 : ∀ (v2 : Int32) (v3 : Int32) (v4 : Int32) (v5 : Int32) (v6 : Int32) (v7 : Int32) (v8 : Int32) (m0 : Mem), k31 v2 v3 v4 v5 v6 v7 v8 m0 = some (r9, m9) → Go Γ b (sg ad nt z) 0 0 31 [(0, .ref (ad 50)), (1, .ref (ad f)), (2, .int v2), (3, .int v3), (4, .int v4), (5, .int v5), (6, .int v6), (7, .int v7), (8, .int v8)] [] m0) (v2 : Int32) (v3 : Int32) (v4 : Int32) (v5 : Int32) (v6 : Int32) (v7 : Int32) (v8 : Int32) (m0 : Mem) (hf : X2_rounds_121 nt z f k6 k19 k31 v2 v3 v4 v5 v6 v7 v8 m0 = some (r9, m9)) : Go Γ b (sg ad nt z) 0 0 121 [(0, .ref (ad 50)), (1, .ref (ad f)), (2, .int v2), (3, .int v3), (4, .int v4), (5, .int v5), (6, .int v6), (7, .int v7), (8, .int v8)] [] m0 := by
  refine g_iinc X 8 (v := v8 + (1 : Int32)) (lv' := [(8, .int (v8 + (1 : Int32))), (0, .ref (ad 50)), (1, .ref (ad f)), (2, .int v2), (3, .int v3), (4, .int v4), (5, .int v5), (6, .int v6), (7, .int v7)]) dX2_rounds_121 rfl rfl (by decide) rfl ?_
  refine g_goto X (tgt := 31) dX2_rounds_124 (by decide) ?_
  refine g_pick [1, 2, 3, 4, 5, 6, 7, 8, 0] (lv' := [(0, .ref (ad 50)), (1, .ref (ad f)), (2, .int v2), (3, .int v3), (4, .int v4), (5, .int v5), (6, .int v6), (7, .int v7), (8, .int (v8 + (1 : Int32)))]) rfl ?_
  exact hk31 v2 v3 v4 v5 v6 v7 (v8 + (1 : Int32)) m0 hf
set_option maxRecDepth 100000 in
set_option maxHeartbeats 4000000 in
theorem w_X2_rounds_94 {Γ : Ga} {b : Nat} {ad : Nat → Nat} {nt : Nat} {z : Nat → Nat} {f : Nat} {k6 : Int32 → Int32 → Int32 → Int32 → Mem → Option (Int32 × Mem)} {k19 : Int32 → Int32 → Int32 → Int32 → Int32 → Int32 → Mem → Option (Int32 × Mem)} {k31 : Int32 → Int32 → Int32 → Int32 → Int32 → Int32 → Int32 → Mem → Option (Int32 × Mem)} {r9 : Int32} {m9 : Mem} (hf9 : isF f) (X : Cx Γ b cX2_rounds 11 RX2 (some .int) rmX2_rounds) (hret : ∀ (pc : Nat) (lv : List (Nat × Value)), decode cX2_rounds pc = .ok (.ireturn, 1) → narrow .int (.int r9) = .int r9 → Go Γ b (sg ad nt z) 0 0 pc lv [.int r9] m9) (hk6 : ∀ (v2 : Int32) (v3 : Int32) (v4 : Int32) (v5 : Int32) (m0 : Mem), k6 v2 v3 v4 v5 m0 = some (r9, m9) → Go Γ b (sg ad nt z) 0 0 6 [(0, .ref (ad 50)), (1, .ref (ad f)), (2, .int v2), (3, .int v3), (4, .int v4), (5, .int v5)] [] m0) (hk19 : ∀ (v2 : Int32) (v3 : Int32) (v4 : Int32) (v5 : Int32) (v6 : Int32) (v7 : Int32) (m0 : Mem), k19 v2 v3 v4 v5 v6 v7 m0 = some (r9, m9) → Go Γ b (sg ad nt z) 0 0 19 [(0, .ref (ad 50)), (1, .ref (ad f)), (2, .int v2), (3, .int v3), (4, .int v4), (5, .int v5), (6, .int v6), (7, .int v7)] [] m0) (hk31 : ∀ (v2 : Int32) (v3 : Int32) (v4 : Int32) (v5 : Int32) (v6 : Int32) (v7 : Int32) (v8 : Int32) (m0 : Mem), k31 v2 v3 v4 v5 v6 v7 v8 m0 = some (r9, m9) → Go Γ b (sg ad nt z) 0 0 31 [(0, .ref (ad 50)), (1, .ref (ad f)), (2, .int v2), (3, .int v3), (4, .int v4), (5, .int v5), (6, .int v6), (7, .int v7), (8, .int v8)] [] m0) (v2 : Int32) (v3 : Int32) (v4 : Int32) (v5 : Int32) (v6 : Int32) (v7 : Int32) (v8 : Int32) (v9 : Int32) (s0 : Int32) (m0 : Mem) (hf : X2_rounds_94 nt z f k6 k19 k31 v2 v3 v4 v5 v6 v7 v8 v9 s0 m0 = some (r9, m9)) : Go Γ b (sg ad nt z) 0 0 94 [(0, .ref (ad 50)), (1, .ref (ad f)), (2, .int v2), (3, .int v3), (4, .int v4), (5, .int v5), (6, .int v6), (7, .int v7), (8, .int v8), (9, .int v9)] [.int s0] m0 := by
  refine g_istore X (lv' := [(10, .int s0), (0, .ref (ad 50)), (1, .ref (ad f)), (2, .int v2), (3, .int v3), (4, .int v4), (5, .int v5), (6, .int v6), (7, .int v7), (8, .int v8), (9, .int v9)]) dX2_rounds_94 (by decide) rfl ?_
  refine g_iload X 0 dX2_rounds_96 rfl ?_
  refine g_iconst X (v := -1) dX2_rounds_98 (by decide) ?_
  refine g_icmp_ne X (tgt := 105) dX2_rounds_99 (by decide) (fun c99 => ?_) (fun c99 => ?_)
  · have hf := ie c99 hf
    refine g_aload_n X 1 dX2_rounds_105 rfl rfl ?_
    refine g_aload_n X 2 dX2_rounds_106 rfl rfl ?_
    refine g_iload X 8 dX2_rounds_107 rfl ?_
    refine g_iload X 9 dX2_rounds_109 rfl ?_
    refine g_iload X 10 dX2_rounds_111 rfl ?_
    refine g_iload X 0 dX2_rounds_113 rfl ?_
    obtain ⟨m115, h115, hf⟩ := bv_i hf
    refine g_eVV X 50 1 [.ref (ad f), .int v7, .int v8, .int v9, .int s0] kV_X2_77 (c_X2_deal hf9 h115) dX2_rounds_115 rfl rfl (sgN (by decide)) rfl (by decide) rfl rfl ⟨(Nat.le_of_ble_eq_true rfl), (Nat.le_of_ble_eq_true rfl)⟩ ⟨rfl, rfl⟩ ⟨(Nat.zero_le _), (Nat.zero_le _)⟩ (Nat.le_of_ble_eq_true rfl) ?_
    refine g_iinc X 5 (v := v4 + (1 : Int32)) (lv' := [(4, .int (v4 + (1 : Int32))), (10, .int s0), (0, .ref (ad 50)), (1, .ref (ad f)), (2, .int v2), (3, .int v3), (5, .int v5), (6, .int v6), (7, .int v7), (8, .int v8), (9, .int v9)]) dX2_rounds_118 rfl rfl (by decide) rfl ?_
    refine g_pick [2, 3, 4, 5, 0, 6, 7, 8, 9] (lv' := [(0, .ref (ad 50)), (1, .ref (ad f)), (2, .int v2), (3, .int v3), (4, .int (v4 + (1 : Int32))), (5, .int v5), (6, .int v6), (7, .int v7), (8, .int v8)]) rfl ?_
    exact w_X2_rounds_121 hf9 X hret hk6 hk19 hk31 v2 v3 (v4 + (1 : Int32)) v5 v6 v7 v8 m115 hf
  · have hf := it c99 hf
    refine g_goto X (tgt := 121) dX2_rounds_102 (by decide) ?_
    refine g_pick [1, 2, 3, 4, 5, 6, 7, 8, 9] (lv' := [(0, .ref (ad 50)), (1, .ref (ad f)), (2, .int v2), (3, .int v3), (4, .int v4), (5, .int v5), (6, .int v6), (7, .int v7), (8, .int v8)]) rfl ?_
    exact w_X2_rounds_121 hf9 X hret hk6 hk19 hk31 v2 v3 v4 v5 v6 v7 v8 m0 hf
set_option maxRecDepth 100000 in
set_option maxHeartbeats 4000000 in
theorem w_X2_rounds_31 {Γ : Ga} {b : Nat} {ad : Nat → Nat} {nt : Nat} {z : Nat → Nat} {f : Nat} {k6 : Int32 → Int32 → Int32 → Int32 → Mem → Option (Int32 × Mem)} {k19 : Int32 → Int32 → Int32 → Int32 → Int32 → Int32 → Mem → Option (Int32 × Mem)} {r9 : Int32} {m9 : Mem} (hf9 : isF f) (X : Cx Γ b cX2_rounds 11 RX2 (some .int) rmX2_rounds) (hret : ∀ (pc : Nat) (lv : List (Nat × Value)), decode cX2_rounds pc = .ok (.ireturn, 1) → narrow .int (.int r9) = .int r9 → Go Γ b (sg ad nt z) 0 0 pc lv [.int r9] m9) (hk6 : ∀ (v2 : Int32) (v3 : Int32) (v4 : Int32) (v5 : Int32) (m0 : Mem), k6 v2 v3 v4 v5 m0 = some (r9, m9) → Go Γ b (sg ad nt z) 0 0 6 [(0, .ref (ad 50)), (1, .ref (ad f)), (2, .int v2), (3, .int v3), (4, .int v4), (5, .int v5)] [] m0) (hk19 : ∀ (v2 : Int32) (v3 : Int32) (v4 : Int32) (v5 : Int32) (v6 : Int32) (v7 : Int32) (m0 : Mem), k19 v2 v3 v4 v5 v6 v7 m0 = some (r9, m9) → Go Γ b (sg ad nt z) 0 0 19 [(0, .ref (ad 50)), (1, .ref (ad f)), (2, .int v2), (3, .int v3), (4, .int v4), (5, .int v5), (6, .int v6), (7, .int v7)] [] m0) : ∀ (n : Nat) (v2 : Int32) (v3 : Int32) (v4 : Int32) (v5 : Int32) (v6 : Int32) (v7 : Int32) (v8 : Int32) (m0 : Mem), X2_rounds_31 nt z f k6 k19 n v2 v3 v4 v5 v6 v7 v8 m0 = some (r9, m9) → Go Γ b (sg ad nt z) 0 0 31 [(0, .ref (ad 50)), (1, .ref (ad f)), (2, .int v2), (3, .int v3), (4, .int v4), (5, .int v5), (6, .int v6), (7, .int v7), (8, .int v8)] [] m0 := by
  intro n
  induction n with
  | zero =>
    intro v2 v3 v4 v5 v6 v7 v8 m0 hf
    cases hf
  | succ n ih =>
    intro v2 v3 v4 v5 v6 v7 v8 m0 hf
    refine g_iload X 8 dX2_rounds_31 rfl ?_
    refine g_aload_n X 1 dX2_rounds_33 rfl rfl ?_
    refine g_getI X f 0 0 dX2_rounds_34 (F_lt0 hf9) (F_kd0 hf9) (by decide) rfl iw_X0 (by decide) rfl q_fl_X2_67 ?_
    refine g_icmp_ge X (tgt := 127) dX2_rounds_37 (by decide) (fun c37 => ?_) (fun c37 => ?_)
    · have hf := it c37 hf
      refine g_iinc X 7 (v := v7 + (1 : Int32)) (lv' := [(7, .int (v7 + (1 : Int32))), (0, .ref (ad 50)), (1, .ref (ad f)), (2, .int v2), (3, .int v3), (4, .int v4), (5, .int v5), (6, .int v6), (8, .int v8)]) dX2_rounds_127 rfl rfl (by decide) rfl ?_
      refine g_goto X (tgt := 19) dX2_rounds_130 (by decide) ?_
      refine g_pick [1, 2, 3, 4, 5, 6, 7, 0] (lv' := [(0, .ref (ad 50)), (1, .ref (ad f)), (2, .int v2), (3, .int v3), (4, .int v4), (5, .int v5), (6, .int v6), (7, .int (v7 + (1 : Int32)))]) rfl ?_
      exact hk19 v2 v3 v4 v5 v6 (v7 + (1 : Int32)) m0 hf
    · have hf := ie c37 hf
      refine g_iload X 7 dX2_rounds_40 rfl ?_
      refine g_iload X 8 dX2_rounds_42 rfl ?_
      refine g_icmp_eq X (tgt := 121) dX2_rounds_44 (by decide) (fun c44 => ?_) (fun c44 => ?_)
      · have hf := it c44 hf
        exact w_X2_rounds_121 hf9 X hret hk6 hk19 ih v2 v3 v4 v5 v6 v7 v8 m0 hf
      · have hf := ie c44 hf
        refine g_iload X 7 dX2_rounds_47 rfl ?_
        refine g_iload_n X 3 dX2_rounds_49 rfl rfl ?_
        refine g_icmp_eq X (tgt := 121) dX2_rounds_50 (by decide) (fun c50 => ?_) (fun c50 => ?_)
        · have hf := it c50 hf
          exact w_X2_rounds_121 hf9 X hret hk6 hk19 ih v2 v3 v4 v5 v6 v7 v8 m0 hf
        · have hf := ie c50 hf
          refine g_iload X 8 dX2_rounds_53 rfl ?_
          refine g_iload_n X 3 dX2_rounds_55 rfl rfl ?_
          refine g_icmp_ne X (tgt := 62) dX2_rounds_56 (by decide) (fun c56 => ?_) (fun c56 => ?_)
          · have hf := ie c56 hf
            refine g_aload_n X 0 dX2_rounds_62 rfl rfl ?_
            refine g_aload_n X 1 dX2_rounds_63 rfl rfl ?_
            refine g_iload X 7 dX2_rounds_64 rfl ?_
            refine g_iload X 8 dX2_rounds_66 rfl ?_
            obtain ⟨r68, m68, h68, hf⟩ := bi_i hf
            refine g_eVI X 50 1 [.ref (ad f), .int v7, .int v8] kV_X2_71 (c_X2_firstAsked hf9 h68) dX2_rounds_68 rfl rfl (sgN (by decide)) rfl (by decide) rfl rfl ⟨(Nat.le_of_ble_eq_true rfl), (Nat.le_of_ble_eq_true rfl)⟩ ⟨rfl, rfl⟩ ⟨(Nat.zero_le _), (Nat.zero_le _)⟩ (Nat.le_of_ble_eq_true rfl) ?_
            refine g_istore X (lv' := [(9, .int r68), (0, .ref (ad 50)), (1, .ref (ad f)), (2, .int v2), (3, .int v3), (4, .int v4), (5, .int v5), (6, .int v6), (7, .int v7), (8, .int v8)]) dX2_rounds_71 (by decide) rfl ?_
            refine g_iload X 0 dX2_rounds_73 rfl ?_
            refine g_iconst X (v := -1) dX2_rounds_75 (by decide) ?_
            refine g_icmp_ne X (tgt := 83) dX2_rounds_76 (by decide) (fun c76 => ?_) (fun c76 => ?_)
            · have hf := ie c76 hf
              refine g_aload_n X 1 dX2_rounds_83 rfl rfl ?_
              refine g_aload_n X 2 dX2_rounds_84 rfl rfl ?_
              refine g_iload X 8 dX2_rounds_85 rfl ?_
              refine g_iload X 9 dX2_rounds_87 rfl ?_
              refine g_iload X 0 dX2_rounds_89 rfl ?_
              obtain ⟨r91, m91, h91, hf⟩ := bi_i hf
              refine g_eVI X 50 1 [.ref (ad f), .int v7, .int v8, .int r68] kV_X2_74 (c_X2_payment hf9 h91) dX2_rounds_91 rfl rfl (sgN (by decide)) rfl (by decide) rfl rfl ⟨(Nat.le_of_ble_eq_true rfl), (Nat.le_of_ble_eq_true rfl)⟩ ⟨rfl, rfl⟩ ⟨(Nat.zero_le _), (Nat.zero_le _)⟩ (Nat.le_of_ble_eq_true rfl) ?_
              refine g_pick [1, 2, 3, 4, 5, 6, 7, 8, 9, 0] (lv' := [(0, .ref (ad 50)), (1, .ref (ad f)), (2, .int v2), (3, .int v3), (4, .int v4), (5, .int v5), (6, .int v6), (7, .int v7), (8, .int v8), (9, .int r68)]) rfl ?_
              exact w_X2_rounds_94 hf9 X hret hk6 hk19 ih v2 v3 v4 v5 v6 v7 v8 r68 r91 m91 hf
            · have hf := it c76 hf
              refine g_iconst X (v := -1) dX2_rounds_79 (by decide) ?_
              refine g_goto X (tgt := 94) dX2_rounds_80 (by decide) ?_
              refine g_pick [1, 2, 3, 4, 5, 6, 7, 8, 9, 0] (lv' := [(0, .ref (ad 50)), (1, .ref (ad f)), (2, .int v2), (3, .int v3), (4, .int v4), (5, .int v5), (6, .int v6), (7, .int v7), (8, .int v8), (9, .int r68)]) rfl ?_
              exact w_X2_rounds_94 hf9 X hret hk6 hk19 ih v2 v3 v4 v5 v6 v7 v8 r68 (-1 : Int32) m68 hf
          · have hf := it c56 hf
            refine g_goto X (tgt := 121) dX2_rounds_59 (by decide) ?_
            exact w_X2_rounds_121 hf9 X hret hk6 hk19 ih v2 v3 v4 v5 v6 v7 v8 m0 hf
set_option maxRecDepth 100000 in
set_option maxHeartbeats 4000000 in
theorem w_X2_rounds_19 {Γ : Ga} {b : Nat} {ad : Nat → Nat} {nt : Nat} {z : Nat → Nat} {f : Nat} {k6 : Int32 → Int32 → Int32 → Int32 → Mem → Option (Int32 × Mem)} {r9 : Int32} {m9 : Mem} (hf9 : isF f) (X : Cx Γ b cX2_rounds 11 RX2 (some .int) rmX2_rounds) (hret : ∀ (pc : Nat) (lv : List (Nat × Value)), decode cX2_rounds pc = .ok (.ireturn, 1) → narrow .int (.int r9) = .int r9 → Go Γ b (sg ad nt z) 0 0 pc lv [.int r9] m9) (hk6 : ∀ (v2 : Int32) (v3 : Int32) (v4 : Int32) (v5 : Int32) (m0 : Mem), k6 v2 v3 v4 v5 m0 = some (r9, m9) → Go Γ b (sg ad nt z) 0 0 6 [(0, .ref (ad 50)), (1, .ref (ad f)), (2, .int v2), (3, .int v3), (4, .int v4), (5, .int v5)] [] m0) : ∀ (n : Nat) (v2 : Int32) (v3 : Int32) (v4 : Int32) (v5 : Int32) (v6 : Int32) (v7 : Int32) (m0 : Mem), X2_rounds_19 nt z f k6 n v2 v3 v4 v5 v6 v7 m0 = some (r9, m9) → Go Γ b (sg ad nt z) 0 0 19 [(0, .ref (ad 50)), (1, .ref (ad f)), (2, .int v2), (3, .int v3), (4, .int v4), (5, .int v5), (6, .int v6), (7, .int v7)] [] m0 := by
  intro n
  induction n with
  | zero =>
    intro v2 v3 v4 v5 v6 v7 m0 hf
    cases hf
  | succ n ih =>
    intro v2 v3 v4 v5 v6 v7 m0 hf
    refine g_iload X 7 dX2_rounds_19 rfl ?_
    refine g_aload_n X 1 dX2_rounds_21 rfl rfl ?_
    refine g_getI X f 0 0 dX2_rounds_22 (F_lt0 hf9) (F_kd0 hf9) (by decide) rfl iw_X0 (by decide) rfl q_fl_X2_67 ?_
    refine g_icmp_ge X (tgt := 133) dX2_rounds_25 (by decide) (fun c25 => ?_) (fun c25 => ?_)
    · have hf := it c25 hf
      refine g_aload_n X 1 dX2_rounds_133 rfl rfl ?_
      refine g_dup X dX2_rounds_134 rfl ?_
      refine g_getI X f 0 1 dX2_rounds_135 (F_lt0 hf9) (F_kd0 hf9) (by decide) rfl iw_X0 (by decide) rfl q_fl_X2_81 ?_
      refine g_iconst X (v := 1) dX2_rounds_138 (by decide) ?_
      refine g_iadd X dX2_rounds_139 ?_
      refine g_putI X (tyf := tyX0) f 0 1 dX2_rounds_140 (F_lt0 hf9) (F_kd0 hf9) (by decide) rfl iw_X0 (by decide) rfl q_fl_X2_81 tyX0_ok nmX0 rfl rfl rfl ?_
      refine g_iload X 4 dX2_rounds_143 rfl ?_
      refine g_iload X 6 dX2_rounds_145 rfl ?_
      refine g_icmp_ne X (tgt := 161) dX2_rounds_147 (by decide) (fun c147 => ?_) (fun c147 => ?_)
      · have hf := ie c147 hf
        refine g_pick [0, 1, 2, 3, 4, 5] (lv' := [(0, .ref (ad 50)), (1, .ref (ad f)), (2, .int v2), (3, .int v3), (4, .int v4), (5, .int v5)]) rfl ?_
        exact w_X2_rounds_161 hf9 X hret hk6 v2 v3 v4 v5 (pI m0 f 1 ((m0.1 f 1) + (1 : Int32))) hf
      · have hf := it c147 hf
        refine g_aload_n X 0 dX2_rounds_150 rfl rfl ?_
        refine g_aload_n X 1 dX2_rounds_151 rfl rfl ?_
        obtain ⟨r152, m152, h152, hf⟩ := bi_i hf
        refine g_eVI X 50 1 [.ref (ad f)] kV_X2_84 (c_X2_restsForGood hf9 h152) dX2_rounds_152 rfl rfl (sgN (by decide)) rfl (by decide) rfl rfl ⟨(Nat.le_of_ble_eq_true rfl), (Nat.le_of_ble_eq_true rfl)⟩ ⟨rfl, rfl⟩ ⟨(Nat.zero_le _), (Nat.zero_le _)⟩ (Nat.le_of_ble_eq_true rfl) ?_
        refine g_if_eq X (tgt := 161) dX2_rounds_155 (by decide) (fun c155 => ?_) (fun c155 => ?_)
        · have hf := it c155 hf
          refine g_pick [0, 1, 2, 3, 4, 5] (lv' := [(0, .ref (ad 50)), (1, .ref (ad f)), (2, .int v2), (3, .int v3), (4, .int v4), (5, .int v5)]) rfl ?_
          exact w_X2_rounds_161 hf9 X hret hk6 v2 v3 v4 v5 m152 hf
        · have hf := ie c155 hf
          refine g_iload X 4 dX2_rounds_158 rfl ?_
          obtain ⟨rfl, rfl⟩ := lf2 hf
          exact hret 160 _ dX2_rounds_160 rfl
    · have hf := ie c25 hf
      refine g_iconst X (v := 0) dX2_rounds_28 (by decide) ?_
      refine g_istore X (lv' := [(8, .int (0 : Int32)), (0, .ref (ad 50)), (1, .ref (ad f)), (2, .int v2), (3, .int v3), (4, .int v4), (5, .int v5), (6, .int v6), (7, .int v7)]) dX2_rounds_29 (by decide) rfl ?_
      refine g_pick [1, 2, 3, 4, 5, 6, 7, 8, 0] (lv' := [(0, .ref (ad 50)), (1, .ref (ad f)), (2, .int v2), (3, .int v3), (4, .int v4), (5, .int v5), (6, .int v6), (7, .int v7), (8, .int (0 : Int32))]) rfl ?_
      exact w_X2_rounds_31 hf9 X hret hk6 ih 10000 v2 v3 v4 v5 v6 v7 (0 : Int32) m0 hf
set_option maxRecDepth 100000 in
set_option maxHeartbeats 4000000 in
theorem w_X2_rounds_6 {Γ : Ga} {b : Nat} {ad : Nat → Nat} {nt : Nat} {z : Nat → Nat} {f : Nat} {r9 : Int32} {m9 : Mem} (hf9 : isF f) (X : Cx Γ b cX2_rounds 11 RX2 (some .int) rmX2_rounds) (hret : ∀ (pc : Nat) (lv : List (Nat × Value)), decode cX2_rounds pc = .ok (.ireturn, 1) → narrow .int (.int r9) = .int r9 → Go Γ b (sg ad nt z) 0 0 pc lv [.int r9] m9) : ∀ (n : Nat) (v2 : Int32) (v3 : Int32) (v4 : Int32) (v5 : Int32) (m0 : Mem), X2_rounds_6 nt z f n v2 v3 v4 v5 m0 = some (r9, m9) → Go Γ b (sg ad nt z) 0 0 6 [(0, .ref (ad 50)), (1, .ref (ad f)), (2, .int v2), (3, .int v3), (4, .int v4), (5, .int v5)] [] m0 := by
  intro n
  induction n with
  | zero =>
    intro v2 v3 v4 v5 m0 hf
    cases hf
  | succ n ih =>
    intro v2 v3 v4 v5 m0 hf
    refine g_iload X 5 dX2_rounds_6 rfl ?_
    refine g_iload_n X 2 dX2_rounds_8 rfl rfl ?_
    refine g_icmp_ge X (tgt := 167) dX2_rounds_9 (by decide) (fun c9 => ?_) (fun c9 => ?_)
    · have hf := it c9 hf
      refine g_iload X 4 dX2_rounds_167 rfl ?_
      obtain ⟨rfl, rfl⟩ := lf2 hf
      exact hret 169 _ dX2_rounds_169 rfl
    · have hf := ie c9 hf
      refine g_iload X 4 dX2_rounds_12 rfl ?_
      refine g_istore X (lv' := [(6, .int v4), (0, .ref (ad 50)), (1, .ref (ad f)), (2, .int v2), (3, .int v3), (4, .int v4), (5, .int v5)]) dX2_rounds_14 (by decide) rfl ?_
      refine g_iconst X (v := 0) dX2_rounds_16 (by decide) ?_
      refine g_istore X (lv' := [(7, .int (0 : Int32)), (6, .int v4), (0, .ref (ad 50)), (1, .ref (ad f)), (2, .int v2), (3, .int v3), (4, .int v4), (5, .int v5)]) dX2_rounds_17 (by decide) rfl ?_
      refine g_pick [2, 3, 4, 5, 6, 7, 1, 0] (lv' := [(0, .ref (ad 50)), (1, .ref (ad f)), (2, .int v2), (3, .int v3), (4, .int v4), (5, .int v5), (6, .int v4), (7, .int (0 : Int32))]) rfl ?_
      exact w_X2_rounds_19 hf9 X hret ih 10000 v2 v3 v4 v5 v4 (0 : Int32) m0 hf
set_option maxRecDepth 100000 in
set_option maxHeartbeats 4000000 in
theorem c_X2_rounds {l : Launch} {G : GG} {b : Nat} {ad : Nat → Nat} {nt : Nat} {z : Nat → Nat} {f : Nat} {p1 : Int32} {p2 : Int32} {m0 : Mem} {r9 : Int32} {m9 : Mem} (hf9 : isF f) (hf : X2_rounds nt z f p1 p2 m0 = some (r9, m9)) : MtI l yX2_rounds cX2_rounds 11 (some .int) rmX2_rounds G b (sg ad nt z) m0 [.ref (ad 50), .ref (ad f), .int p1, .int p2] (pEI r9 (sg ad nt z) m9) := by
  refine mtI_of (by decide) (Nat.le_of_ble_eq_true rfl) .int rfl (fun Γ hG X hnm hr => ?_)
  have hret : ∀ (pc : Nat) (lv : List (Nat × Value)), decode cX2_rounds pc = .ok (.ireturn, 1) → narrow .int (.int r9) = .int r9 → Go Γ b (sg ad nt z) 0 0 pc lv [.int r9] m9 := fun pc lv d hn => hr pc lv _ _ _ d ⟨rfl, rfl, rfl⟩ hn
  show Go Γ b (sg ad nt z) 0 0 0 [(0, .ref (ad 50)), (1, .ref (ad f)), (2, .int p1), (3, .int p2)] [] m0
  refine g_iconst X (v := 0) dX2_rounds_0 (by decide) ?_
  refine g_istore X (lv' := [(4, .int (0 : Int32)), (0, .ref (ad 50)), (1, .ref (ad f)), (2, .int p1), (3, .int p2)]) dX2_rounds_1 (by decide) rfl ?_
  refine g_iconst X (v := 0) dX2_rounds_3 (by decide) ?_
  refine g_istore X (lv' := [(5, .int (0 : Int32)), (4, .int (0 : Int32)), (0, .ref (ad 50)), (1, .ref (ad f)), (2, .int p1), (3, .int p2)]) dX2_rounds_4 (by decide) rfl ?_
  refine g_pick [2, 3, 4, 5, 1, 0] (lv' := [(0, .ref (ad 50)), (1, .ref (ad f)), (2, .int p1), (3, .int p2), (4, .int (0 : Int32)), (5, .int (0 : Int32))]) rfl ?_
  exact w_X2_rounds_6 hf9 X hret 10000 p1 p2 (0 : Int32) (0 : Int32) m0 hf

def X3_add (p0 : Int32) (m0 : Mem) : Option (Int32 × Mem) :=
  if (m0.1 30 1) < (160 : Int32) then
    if inn (m0.1 30 1) 160 then
    some ((pI (pI m0 31 (m0.1 30 1).toNatClampNeg p0) 30 1 (((pI m0 31 (m0.1 30 1).toNatClampNeg p0).1 30 1) + (1 : Int32))).1 30 1, pI (pI m0 31 (m0.1 30 1).toNatClampNeg p0) 30 1 (((pI m0 31 (m0.1 30 1).toNatClampNeg p0).1 30 1) + (1 : Int32)))
    else none
  else
    some ((-4 : Int32), m0)
abbrev rmX3_add : Room := { frames := 0, cells := 0, slots := 0, locals := 0 }

set_option maxRecDepth 100000 in
set_option maxHeartbeats 4000000 in
theorem c_X3_add {l : Launch} {G : GG} {b : Nat} {σ : St} {p0 : Int32} {m0 : Mem} {r9 : Int32} {m9 : Mem} (hRd : RdOk σ) (hf : X3_add p0 m0 = some (r9, m9)) : MtI l yX3_add cX3_add 2 (some .int) rmX3_add G b σ m0 [.ref (σ.1 30), .int p0] (pEI r9 σ m9) := by
  refine mtI_of (by decide) (Nat.le_of_ble_eq_true rfl) .int rfl (fun Γ hG X hnm hr => ?_)
  have hret : ∀ (pc : Nat) (lv : List (Nat × Value)), decode cX3_add pc = .ok (.ireturn, 1) → narrow .int (.int r9) = .int r9 → Go Γ b σ 0 0 pc lv [.int r9] m9 := fun pc lv d hn => hr pc lv _ _ _ d ⟨rfl, rfl, rfl⟩ hn
  show Go Γ b σ 0 0 0 [(0, .ref (σ.1 30)), (1, .int p0)] [] m0
  refine g_aload_n X 0 dX3_add_0 rfl rfl ?_
  refine g_getI X 30 2 1 dX3_add_1 (rd_lt hRd (by decide)) rfl (by decide) rfl iw_X3 (by decide) rfl q_fl_X3_15 ?_
  refine g_sipush X (v := 160) dX3_add_4 (by decide) ?_
  refine g_icmp_lt X (tgt := 13) dX3_add_7 (by decide) (fun c7 => ?_) (fun c7 => ?_)
  · have hf := it c7 hf
    refine g_aload_n X 0 dX3_add_13 rfl rfl ?_
    refine g_getr X (x := σ.1 31) 30 2 0 dX3_add_14 (rd_lt hRd (by decide)) rfl (by decide) rfl iw_X3 (by decide) rfl q_fl_X3_9 hRd.2.1 ?_
    refine g_aload_n X 0 dX3_add_17 rfl rfl ?_
    refine g_getI X 30 2 1 dX3_add_18 (rd_lt hRd (by decide)) rfl (by decide) rfl iw_X3 (by decide) rfl q_fl_X3_15 ?_
    refine g_iload_n X 1 dX3_add_21 rfl rfl ?_
    obtain ⟨h22, hf⟩ := grd hf
    refine g_iast X 31 (n := 160) dX3_add_22 (rd_lt hRd (by decide)) rfl hRd.2.2.2.1 h22 ?_
    refine g_aload_n X 0 dX3_add_23 rfl rfl ?_
    refine g_dup X dX3_add_24 rfl ?_
    refine g_getI X 30 2 1 dX3_add_25 (rd_lt hRd (by decide)) rfl (by decide) rfl iw_X3 (by decide) rfl q_fl_X3_15 ?_
    refine g_iconst X (v := 1) dX3_add_28 (by decide) ?_
    refine g_iadd X dX3_add_29 ?_
    refine g_putI X (tyf := tyX3) 30 2 1 dX3_add_30 (rd_lt hRd (by decide)) rfl (by decide) rfl iw_X3 (by decide) rfl q_fl_X3_15 tyX3_ok nmX3 rfl rfl rfl ?_
    refine g_aload_n X 0 dX3_add_33 rfl rfl ?_
    refine g_getI X 30 2 1 dX3_add_34 (rd_lt hRd (by decide)) rfl (by decide) rfl iw_X3 (by decide) rfl q_fl_X3_15 ?_
    obtain ⟨rfl, rfl⟩ := lf2 hf
    exact hret 37 _ dX3_add_37 rfl
  · have hf := ie c7 hf
    refine g_bipush X (v := -4) dX3_add_10 (by decide) ?_
    obtain ⟨rfl, rfl⟩ := lf2 hf
    exact hret 12 _ dX3_add_12 rfl

def J0_coder_7d493 (i : Nat) (m0 : Mem) : Option (Int32 × Mem) :=
  if (1 : Int32) = 0 then
    some ((1 : Int32), m0)
  else
    some ((0 : Int32), m0)
abbrev rmJ0_coder_7d493 : Room := { frames := 0, cells := 0, slots := 0, locals := 0 }

set_option maxRecDepth 100000 in
set_option maxHeartbeats 4000000 in
theorem c_J0_coder_7d493 {l : Launch} {G : GG} {b : Nat} {σ : St} {i : Nat} {m0 : Mem} {r9 : Int32} {m9 : Mem} (hi9 : i < 3) (hf : J0_coder_7d493 i m0 = some (r9, m9)) : MtI l yJ0_coder_7d493 cJ0_coder_7d493 1 (some .byte) rmJ0_coder_7d493 G b σ m0 [.ref (G.2.2 (2 + i))] (pEI r9 σ m9) := by
  refine mtI_of (by decide) (Nat.le_of_ble_eq_true rfl) .byte rfl (fun Γ hG X hnm hr => ?_)
  subst hG
  have hret : ∀ (pc : Nat) (lv : List (Nat × Value)), decode cJ0_coder_7d493 pc = .ok (.ireturn, 1) → narrow .byte (.int r9) = .int r9 → Go Γ b σ 0 0 pc lv [.int r9] m9 := fun pc lv d hn => hr pc lv _ _ _ d ⟨rfl, rfl, rfl⟩ hn
  show Go Γ b σ 0 0 0 [(0, .ref ((gG Γ).2.2 (2 + i)))] [] m0
  refine g_getsCS X dJ0_coder_7d493_0 q_fl_J0_38 ?_
  refine g_if_eq X (tgt := 13) dJ0_coder_7d493_3 (by decide) (fun c3 => ?_) (fun c3 => ?_)
  · have hf := it c3 hf
    refine g_iconst X (v := 1) dJ0_coder_7d493_13 (by decide) ?_
    obtain ⟨rfl, rfl⟩ := lf2 hf
    exact hret 14 _ dJ0_coder_7d493_14 rfl
  · have hf := ie c3 hf
    refine g_aload_n X 0 dJ0_coder_7d493_6 rfl rfl ?_
    refine g_scod X dJ0_coder_7d493_7 hi9 q_fl_J0_15 ?_
    refine g_goto X (tgt := 14) dJ0_coder_7d493_10 (by decide) ?_
    obtain ⟨rfl, rfl⟩ := lf2 hf
    exact hret 14 _ dJ0_coder_7d493_14 rfl

theorem kV_J0_335 : wcV RJ0 335 RJ0 yJ0_coder_7d493 cJ0_coder_7d493 1 (some .byte) 0 := ⟨q_ml_J0_335, q_im_yJ0_coder_7d493, q_se_yJ0_coder_7d493, q_in_J0, q_co_yJ0_coder_7d493, by decide +kernel⟩

def J0_length_8abf5 (i : Nat) (m0 : Mem) : Option (Int32 × Mem) :=
  bi (J0_coder_7d493 i m0) fun r6 m6 =>
  some ((Int32.ofNat (xL.getD i 0)) >>> (r6 &&& 31), m6)
abbrev rmJ0_length_8abf5 : Room := { frames := 1, cells := 0, slots := 0, locals := 20 }

set_option maxRecDepth 100000 in
set_option maxHeartbeats 4000000 in
theorem c_J0_length_8abf5 {l : Launch} {G : GG} {b : Nat} {σ : St} {i : Nat} {m0 : Mem} {r9 : Int32} {m9 : Mem} (hi9 : i < 3) (hf : J0_length_8abf5 i m0 = some (r9, m9)) : MtI l yJ0_length_8abf5 cJ0_length_8abf5 1 (some .int) rmJ0_length_8abf5 G b σ m0 [.ref (G.2.2 (2 + i))] (pEI r9 σ m9) := by
  refine mtI_of (by decide) (Nat.le_of_ble_eq_true rfl) .int rfl (fun Γ hG X hnm hr => ?_)
  subst hG
  have hret : ∀ (pc : Nat) (lv : List (Nat × Value)), decode cJ0_length_8abf5 pc = .ok (.ireturn, 1) → narrow .int (.int r9) = .int r9 → Go Γ b σ 0 0 pc lv [.int r9] m9 := fun pc lv d hn => hr pc lv _ _ _ d ⟨rfl, rfl, rfl⟩ hn
  show Go Γ b σ 0 0 0 [(0, .ref ((gG Γ).2.2 (2 + i)))] [] m0
  refine g_aload_n X 0 dJ0_length_8abf5_0 rfl rfl ?_
  refine g_sval X dJ0_length_8abf5_1 hi9 q_fl_J0_9 ?_
  refine g_slen X dJ0_length_8abf5_4 hi9 ?_
  refine g_aload_n X 0 dJ0_length_8abf5_5 rfl rfl ?_
  obtain ⟨r6, m6, h6, hf⟩ := bi_i hf
  refine g_xVI X i [] hi9 kV_J0_335 (c_J0_coder_7d493 hi9 h6) dJ0_length_8abf5_6 rfl rfl ⟨(Nat.le_of_ble_eq_true rfl), (Nat.le_of_ble_eq_true rfl)⟩ ⟨rfl, rfl⟩ ⟨(Nat.zero_le _), (Nat.zero_le _)⟩ (Nat.le_of_ble_eq_true rfl) ?_
  refine g_ishr X dJ0_length_8abf5_9 ?_
  obtain ⟨rfl, rfl⟩ := lf2 hf
  exact hret 10 _ dJ0_length_8abf5_10 rfl

def J0_isLatin1_aae02 (i : Nat) (m0 : Mem) : Option (Int32 × Mem) :=
  if (1 : Int32) = 0 then
    some ((0 : Int32), m0)
  else
    if (0 : Int32) = 0 then
      some ((1 : Int32), m0)
    else
      some ((0 : Int32), m0)
abbrev rmJ0_isLatin1_aae02 : Room := { frames := 0, cells := 0, slots := 0, locals := 0 }

set_option maxRecDepth 100000 in
set_option maxHeartbeats 4000000 in
theorem c_J0_isLatin1_aae02 {l : Launch} {G : GG} {b : Nat} {σ : St} {i : Nat} {m0 : Mem} {r9 : Int32} {m9 : Mem} (hi9 : i < 3) (hf : J0_isLatin1_aae02 i m0 = some (r9, m9)) : MtI l yJ0_isLatin1_aae02 cJ0_isLatin1_aae02 1 (some .boolean) rmJ0_isLatin1_aae02 G b σ m0 [.ref (G.2.2 (2 + i))] (pEI r9 σ m9) := by
  refine mtI_of (by decide) (Nat.le_of_ble_eq_true rfl) .boolean rfl (fun Γ hG X hnm hr => ?_)
  subst hG
  have hret : ∀ (pc : Nat) (lv : List (Nat × Value)), decode cJ0_isLatin1_aae02 pc = .ok (.ireturn, 1) → narrow .boolean (.int r9) = .int r9 → Go Γ b σ 0 0 pc lv [.int r9] m9 := fun pc lv d hn => hr pc lv _ _ _ d ⟨rfl, rfl, rfl⟩ hn
  show Go Γ b σ 0 0 0 [(0, .ref ((gG Γ).2.2 (2 + i)))] [] m0
  refine g_getsCS X dJ0_isLatin1_aae02_0 q_fl_J0_38 ?_
  refine g_if_eq X (tgt := 17) dJ0_isLatin1_aae02_3 (by decide) (fun c3 => ?_) (fun c3 => ?_)
  · have hf := it c3 hf
    refine g_iconst X (v := 0) dJ0_isLatin1_aae02_17 (by decide) ?_
    obtain ⟨rfl, rfl⟩ := lf2 hf
    exact hret 18 _ dJ0_isLatin1_aae02_18 rfl
  · have hf := ie c3 hf
    refine g_aload_n X 0 dJ0_isLatin1_aae02_6 rfl rfl ?_
    refine g_scod X dJ0_isLatin1_aae02_7 hi9 q_fl_J0_15 ?_
    refine g_if_ne X (tgt := 17) dJ0_isLatin1_aae02_10 (by decide) (fun c10 => ?_) (fun c10 => ?_)
    · have hf := ie c10 hf
      refine g_iconst X (v := 0) dJ0_isLatin1_aae02_17 (by decide) ?_
      obtain ⟨rfl, rfl⟩ := lf2 hf
      exact hret 18 _ dJ0_isLatin1_aae02_18 rfl
    · have hf := it c10 hf
      refine g_iconst X (v := 1) dJ0_isLatin1_aae02_13 (by decide) ?_
      refine g_goto X (tgt := 18) dJ0_isLatin1_aae02_14 (by decide) ?_
      obtain ⟨rfl, rfl⟩ := lf2 hf
      exact hret 18 _ dJ0_isLatin1_aae02_18 rfl

def J3_checkIndex_8e157 (p0 p1 : Int32) (m0 : Mem) : Option (Int32 × Mem) :=
  if p0 < 0 then none else if p0 < p1 then some (p0, m0) else none
abbrev rmJ3_checkIndex_8e157 : Room := { frames := 0, cells := 0, slots := 0, locals := 0 }
theorem c_J3_checkIndex_8e157 {l : Launch} {G : GG} {b : Nat} {σ : St} {p0 p1 : Int32} (o : Option Nat) {m0 : Mem} {r9 : Int32} {m9 : Mem} (hf : J3_checkIndex_8e157 p0 p1 m0 = some (r9, m9)) : MtI l yJ3_checkIndex_8e157 cJ3_checkIndex_8e157 3 (some .int) rmJ3_checkIndex_8e157 G b σ m0 [.int p0, .int p1, va_rf o] (pEI r9 σ m9) := by
  refine mtI_of (by decide) (by cases o <;> exact Nat.le_of_ble_eq_true rfl) .int rfl (fun Γ hG X hnm hr => ?_)
  have hret : ∀ (pc : Nat) (lv : List (Nat × Value)), decode cJ3_checkIndex_8e157 pc = .ok (.ireturn, 1) → narrow .int (.int r9) = .int r9 → Go Γ b σ 0 0 pc lv [.int r9] m9 := fun pc lv d hn => hr pc lv _ _ _ d ⟨rfl, rfl, rfl⟩ hn
  show Go Γ b σ 0 0 0 [(0, .int p0), (1, .int p1), (2, va_rf o)] [] m0
  refine g_iload_n X 0 dJ3_checkIndex_8e157_0 rfl rfl ?_
  refine g_if_lt X (tgt := 9) dJ3_checkIndex_8e157_1 (by decide) (fun c1 => ?_) (fun c1 => ?_)
  · have hf := it c1 hf
    cases hf
  · have hf := ie c1 hf
    refine g_iload_n X 0 dJ3_checkIndex_8e157_4 rfl rfl ?_
    refine g_iload_n X 1 dJ3_checkIndex_8e157_5 rfl rfl ?_
    refine g_icmp_lt X (tgt := 16) dJ3_checkIndex_8e157_6 (by decide) (fun c6 => ?_) (fun c6 => ?_)
    · have hf := it c6 hf
      refine g_iload_n X 0 dJ3_checkIndex_8e157_16 rfl rfl ?_
      obtain ⟨rfl, rfl⟩ := lf2 hf
      exact hret 17 _ dJ3_checkIndex_8e157_17 rfl
    · have hf := ie c6 hf
      cases hf
theorem kS_J0_1059 : wcS RJ0 1059 yJ3_checkIndex_8e157 cJ3_checkIndex_8e157 3 (some .int) 3 := ⟨q_ml_J0_1059, q_st_yJ3_checkIndex_8e157, q_in_J3, q_co_yJ3_checkIndex_8e157, by decide +kernel⟩
def J0_checkIndex_df160 (p0 p1 : Int32) (m0 : Mem) : Option Mem := bi (J3_checkIndex_8e157 p0 p1 m0) fun _ m5 => some m5
abbrev rmJ0_checkIndex_df160 : Room := { frames := 1, cells := 0, slots := 0, locals := 60 }
theorem c_J0_checkIndex_df160 {l : Launch} {G : GG} {b : Nat} {σ : St} {p0 p1 : Int32} {m0 m9 : Mem} (hf : J0_checkIndex_df160 p0 p1 m0 = some m9) : MtV l yJ0_checkIndex_df160 cJ0_checkIndex_df160 2 none rmJ0_checkIndex_df160 G b σ m0 [.int p0, .int p1] (pEV σ m9) := by
  refine mtV_of (by decide) (Nat.le_of_ble_eq_true rfl) rfl (fun Γ hG X hnm hr => ?_)
  show Go Γ b σ 0 0 0 [(0, .int p0), (1, .int p1)] [] m0
  refine g_iload_n X 0 dJ0_checkIndex_df160_0 rfl rfl ?_
  refine g_iload_n X 1 dJ0_checkIndex_df160_1 rfl rfl ?_
  refine g_getsFM X dJ0_checkIndex_df160_2 q_fl_J0_1053 (fun o => ?_)
  obtain ⟨r5, m5, h5, hf⟩ := bi_i hf
  refine g_eSI X [.int p0, .int p1, va_rf o] kS_J0_1059 (c_J3_checkIndex_8e157 o h5) dJ0_checkIndex_df160_5 rfl rfl ⟨(Nat.le_of_ble_eq_true rfl), (Nat.le_of_ble_eq_true rfl)⟩ ⟨rfl, rfl⟩ ⟨(Nat.zero_le _), (Nat.zero_le _)⟩ (Nat.le_of_ble_eq_true rfl) ?_
  refine g_pop X dJ0_checkIndex_df160_8 rfl ?_
  obtain rfl := lf1 hf
  exact hr 9 _ _ _ dJ0_checkIndex_df160_9 ⟨rfl, rfl⟩

theorem kS_J1_9 : wcS RJ1 9 yJ0_checkIndex_df160 cJ0_checkIndex_df160 2 (none) 2 := ⟨q_ml_J1_9, q_st_yJ0_checkIndex_df160, q_in_J0, q_co_yJ0_checkIndex_df160, by decide +kernel⟩

def J1_charAt_3b067 (i : Nat) (p1 : Int32) (m0 : Mem) : Option (Int32 × Mem) :=
  bv (J0_checkIndex_df160 p1 (Int32.ofNat (xL.getD i 0)) m0) fun m3 =>
  if inn p1 (xL.getD i 0) then
  some (((((xB.getD i []).getD p1.toNatClampNeg 0) &&& (255 : Int32)).toUInt32 % 65536).toInt32, m3)
  else none
abbrev rmJ1_charAt_3b067 : Room := { frames := 2, cells := 0, slots := 0, locals := 81 }

set_option maxRecDepth 100000 in
set_option maxHeartbeats 4000000 in
theorem c_J1_charAt_3b067 {l : Launch} {G : GG} {b : Nat} {σ : St} {i : Nat} {p1 : Int32} {m0 : Mem} {r9 : Int32} {m9 : Mem} (hi9 : i < 3) (hf : J1_charAt_3b067 i p1 m0 = some (r9, m9)) : MtI l yJ1_charAt_3b067 cJ1_charAt_3b067 2 (some .char) rmJ1_charAt_3b067 G b σ m0 [.ref (G.2.2 (5 + i)), .int p1] (pEI r9 σ m9) := by
  refine mtI_of (by decide) (Nat.le_of_ble_eq_true rfl) .char rfl (fun Γ hG X hnm hr => ?_)
  subst hG
  have hret : ∀ (pc : Nat) (lv : List (Nat × Value)), decode cJ1_charAt_3b067 pc = .ok (.ireturn, 1) → narrow .char (.int r9) = .int r9 → Go Γ b σ 0 0 pc lv [.int r9] m9 := fun pc lv d hn => hr pc lv _ _ _ d ⟨rfl, rfl, rfl⟩ hn
  show Go Γ b σ 0 0 0 [(0, .ref ((gG Γ).2.2 (5 + i))), (1, .int p1)] [] m0
  refine g_iload_n X 1 dJ1_charAt_3b067_0 rfl rfl ?_
  refine g_aload_n X 0 dJ1_charAt_3b067_1 rfl rfl ?_
  refine g_slen X dJ1_charAt_3b067_2 hi9 ?_
  obtain ⟨m3, h3, hf⟩ := bv_i hf
  refine g_eSV X [.int p1, .int (Int32.ofNat (xL.getD i 0))] kS_J1_9 (c_J0_checkIndex_df160 h3) dJ1_charAt_3b067_3 rfl rfl ⟨(Nat.le_of_ble_eq_true rfl), (Nat.le_of_ble_eq_true rfl)⟩ ⟨rfl, rfl⟩ ⟨(Nat.zero_le _), (Nat.zero_le _)⟩ (Nat.le_of_ble_eq_true rfl) ?_
  refine g_aload_n X 0 dJ1_charAt_3b067_6 rfl rfl ?_
  refine g_iload_n X 1 dJ1_charAt_3b067_7 rfl rfl ?_
  obtain ⟨h8, hf⟩ := grd hf
  refine g_sbald X dJ1_charAt_3b067_8 hi9 h8 ?_
  refine g_sipush X (v := 255) dJ1_charAt_3b067_9 (by decide) ?_
  refine g_iand X dJ1_charAt_3b067_12 ?_
  refine g_i2c X dJ1_charAt_3b067_13 ?_
  obtain ⟨rfl, rfl⟩ := lf2 hf
  exact hret 14 _ dJ1_charAt_3b067_14 (pk_nc _)

theorem kV_J0_492 : wcV RJ0 492 RJ0 yJ0_isLatin1_aae02 cJ0_isLatin1_aae02 1 (some .boolean) 0 := ⟨q_ml_J0_492, q_im_yJ0_isLatin1_aae02, q_se_yJ0_isLatin1_aae02, q_in_J0, q_co_yJ0_isLatin1_aae02, by decide +kernel⟩

theorem kS_J0_495 : wcS RJ0 495 yJ1_charAt_3b067 cJ1_charAt_3b067 2 (some .char) 2 := ⟨q_ml_J0_495, q_st_yJ1_charAt_3b067, q_in_J1, q_co_yJ1_charAt_3b067, by decide +kernel⟩

def J0_charAt_5068e (i : Nat) (p0 : Int32) (m0 : Mem) : Option (Int32 × Mem) :=
  bi (J0_isLatin1_aae02 i m0) fun r1 m1 =>
  if r1 = 0 then
    none
  else
    bi (J1_charAt_3b067 i p0 m1) fun r12 m12 =>
    if (r12.toUInt32 % 65536).toInt32 = r12 then some (r12, m12) else none
abbrev rmJ0_charAt_5068e : Room := { frames := 3, cells := 0, slots := 0, locals := 102 }

set_option maxRecDepth 100000 in
set_option maxHeartbeats 4000000 in
theorem c_J0_charAt_5068e {l : Launch} {G : GG} {b : Nat} {σ : St} {i : Nat} {p0 : Int32} {m0 : Mem} {r9 : Int32} {m9 : Mem} (hi9 : i < 3) (hf : J0_charAt_5068e i p0 m0 = some (r9, m9)) : MtI l yJ0_charAt_5068e cJ0_charAt_5068e 2 (some .char) rmJ0_charAt_5068e G b σ m0 [.ref (G.2.2 (2 + i)), .int p0] (pEI r9 σ m9) := by
  refine mtI_of (by decide) (Nat.le_of_ble_eq_true rfl) .char rfl (fun Γ hG X hnm hr => ?_)
  subst hG
  have hret : ∀ (pc : Nat) (lv : List (Nat × Value)), decode cJ0_charAt_5068e pc = .ok (.ireturn, 1) → narrow .char (.int r9) = .int r9 → Go Γ b σ 0 0 pc lv [.int r9] m9 := fun pc lv d hn => hr pc lv _ _ _ d ⟨rfl, rfl, rfl⟩ hn
  show Go Γ b σ 0 0 0 [(0, .ref ((gG Γ).2.2 (2 + i))), (1, .int p0)] [] m0
  refine g_aload_n X 0 dJ0_charAt_5068e_0 rfl rfl ?_
  obtain ⟨r1, m1, h1, hf⟩ := bi_i hf
  refine g_xVI X i [] hi9 kV_J0_492 (c_J0_isLatin1_aae02 hi9 h1) dJ0_charAt_5068e_1 rfl rfl ⟨(Nat.le_of_ble_eq_true rfl), (Nat.le_of_ble_eq_true rfl)⟩ ⟨rfl, rfl⟩ ⟨(Nat.zero_le _), (Nat.zero_le _)⟩ (Nat.le_of_ble_eq_true rfl) ?_
  refine g_if_eq X (tgt := 16) dJ0_charAt_5068e_4 (by decide) (fun c4 => ?_) (fun c4 => ?_)
  · have hf := it c4 hf
    refine g_aload_n X 0 dJ0_charAt_5068e_16 rfl rfl ?_
    refine g_sval X dJ0_charAt_5068e_17 hi9 q_fl_J0_9 ?_
    refine g_iload_n X 1 dJ0_charAt_5068e_20 rfl rfl ?_
    cases hf
  · have hf := ie c4 hf
    refine g_aload_n X 0 dJ0_charAt_5068e_7 rfl rfl ?_
    refine g_sval X dJ0_charAt_5068e_8 hi9 q_fl_J0_9 ?_
    refine g_iload_n X 1 dJ0_charAt_5068e_11 rfl rfl ?_
    obtain ⟨r12, m12, h12, hf⟩ := bi_i hf
    refine g_eSI X [.ref ((gG Γ).2.2 (5 + i)), .int p0] kS_J0_495 (c_J1_charAt_3b067 hi9 h12) dJ0_charAt_5068e_12 rfl rfl ⟨(Nat.le_of_ble_eq_true rfl), (Nat.le_of_ble_eq_true rfl)⟩ ⟨rfl, rfl⟩ ⟨(Nat.zero_le _), (Nat.zero_le _)⟩ (Nat.le_of_ble_eq_true rfl) ?_
    obtain ⟨hz, hf⟩ := grd hf
    obtain ⟨rfl, rfl⟩ := lf2 hf
    exact hret 15 _ dJ0_charAt_5068e_15 (nw_c hz)

theorem kV_X3_43 : wcV RX3 43 RJ0 yJ0_length_8abf5 cJ0_length_8abf5 1 (some .int) 0 := ⟨q_ml_X3_43, q_im_yJ0_length_8abf5, q_se_yJ0_length_8abf5, q_in_J0, q_co_yJ0_length_8abf5, by decide +kernel⟩

theorem kV_X3_48 : wcV RX3 48 RJ0 yJ0_charAt_5068e cJ0_charAt_5068e 2 (some .char) 1 := ⟨q_ml_X3_48, q_im_yJ0_charAt_5068e, q_se_yJ0_charAt_5068e, q_in_J0, q_co_yJ0_charAt_5068e, by decide +kernel⟩

theorem kV_X3_52 : wcV RX3 52 RX3 yX3_add cX3_add 2 (some .int) 1 := ⟨q_ml_X3_52, q_im_yX3_add, q_se_yX3_add, q_in_X3, q_co_yX3_add, by decide +kernel⟩

def X3_write_2 : Nat → Int32 → Mem → Option (Mem)
  | 0, _, _ => none
  | n + 1, v2, m0 =>
    bi (J0_length_8abf5 0 m0) fun r4 m4 =>
    if r4 ≤ v2 then
      some m4
    else
      bi (J0_charAt_5068e 0 v2 m4) fun r13 m13 =>
      bi (X3_add r13 m13) fun r16 m16 =>
      X3_write_2 n (v2 + (1 : Int32)) m16
def X3_write (m0 : Mem) : Option (Mem) :=
  X3_write_2 10000 (0 : Int32) m0
abbrev rmX3_write : Room := { frames := 4, cells := 0, slots := 0, locals := 123 }
set_option maxRecDepth 100000 in
set_option maxHeartbeats 4000000 in
theorem w_X3_write_2 {Γ : Ga} {b : Nat} {σ : St} {m9 : Mem} (hRd : RdOk σ) (X : Cx Γ b cX3_write 3 RX3 (none) rmX3_write) (hret : ∀ (pc : Nat) (lv : List (Nat × Value)), decode cX3_write pc = .ok (.return_, 1) → Go Γ b σ 0 0 pc lv [] m9) : ∀ (n : Nat) (v2 : Int32) (m0 : Mem), X3_write_2 n v2 m0 = some m9 → Go Γ b σ 0 0 2 [(0, .ref (σ.1 30)), (1, .ref ((gG Γ).2.2 2)), (2, .int v2)] [] m0 := by
  intro n
  induction n with
  | zero =>
    intro v2 m0 hf
    cases hf
  | succ n ih =>
    intro v2 m0 hf
    refine g_iload_n X 2 dX3_write_2 rfl rfl ?_
    refine g_aload_n X 1 dX3_write_3 rfl rfl ?_
    obtain ⟨r4, m4, h4, hf⟩ := bi_i hf
    refine g_xVI X 0 [] (by decide) kV_X3_43 (c_J0_length_8abf5 (by decide) h4) dX3_write_4 rfl rfl ⟨(Nat.le_of_ble_eq_true rfl), (Nat.le_of_ble_eq_true rfl)⟩ ⟨rfl, rfl⟩ ⟨(Nat.zero_le _), (Nat.zero_le _)⟩ (Nat.le_of_ble_eq_true rfl) ?_
    refine g_icmp_ge X (tgt := 26) dX3_write_7 (by decide) (fun c7 => ?_) (fun c7 => ?_)
    · have hf := it c7 hf
      obtain rfl := lf1 hf
      exact hret 26 _ dX3_write_26
    · have hf := ie c7 hf
      refine g_aload_n X 0 dX3_write_10 rfl rfl ?_
      refine g_aload_n X 1 dX3_write_11 rfl rfl ?_
      refine g_iload_n X 2 dX3_write_12 rfl rfl ?_
      obtain ⟨r13, m13, h13, hf⟩ := bi_i hf
      refine g_xVI X 0 [.int v2] (by decide) kV_X3_48 (c_J0_charAt_5068e (by decide) h13) dX3_write_13 rfl rfl ⟨(Nat.le_of_ble_eq_true rfl), (Nat.le_of_ble_eq_true rfl)⟩ ⟨rfl, rfl⟩ ⟨(Nat.zero_le _), (Nat.zero_le _)⟩ (Nat.le_of_ble_eq_true rfl) ?_
      obtain ⟨r16, m16, h16, hf⟩ := bi_i hf
      refine g_eVI X 30 2 [.int r13] kV_X3_52 (c_X3_add hRd h16) dX3_write_16 rfl rfl (rd_lt hRd (by decide)) rfl (by decide) rfl rfl ⟨(Nat.le_of_ble_eq_true rfl), (Nat.le_of_ble_eq_true rfl)⟩ ⟨rfl, rfl⟩ ⟨(Nat.zero_le _), (Nat.zero_le _)⟩ (Nat.le_of_ble_eq_true rfl) ?_
      refine g_pop X dX3_write_19 rfl ?_
      refine g_iinc X 2 (v := v2 + (1 : Int32)) (lv' := [(2, .int (v2 + (1 : Int32))), (0, .ref (σ.1 30)), (1, .ref ((gG Γ).2.2 2))]) dX3_write_20 rfl rfl (by decide) rfl ?_
      refine g_goto X (tgt := 2) dX3_write_23 (by decide) ?_
      refine g_pick [1, 2, 0] (lv' := [(0, .ref (σ.1 30)), (1, .ref ((gG Γ).2.2 2)), (2, .int (v2 + (1 : Int32)))]) rfl ?_
      exact ih (v2 + (1 : Int32)) m16 hf
set_option maxRecDepth 100000 in
set_option maxHeartbeats 4000000 in
theorem c_X3_write {l : Launch} {G : GG} {b : Nat} {σ : St} {m0 : Mem} {m9 : Mem} (hRd : RdOk σ) (hf : X3_write m0 = some m9) : MtV l yX3_write cX3_write 3 (none) rmX3_write G b σ m0 [.ref (σ.1 30), .ref (G.2.2 2)] (pEV σ m9) := by
  refine mtV_of (by decide) (Nat.le_of_ble_eq_true rfl) rfl (fun Γ hG X hnm hr => ?_)
  subst hG
  have hret : ∀ (pc : Nat) (lv : List (Nat × Value)), decode cX3_write pc = .ok (.return_, 1) → Go Γ b σ 0 0 pc lv [] m9 := fun pc lv d => hr pc lv _ _ d ⟨rfl, rfl⟩
  show Go Γ b σ 0 0 0 [(0, .ref (σ.1 30)), (1, .ref ((gG Γ).2.2 2))] [] m0
  refine g_iconst X (v := 0) dX3_write_0 (by decide) ?_
  refine g_istore_n X (lv' := [(2, .int (0 : Int32)), (0, .ref (σ.1 30)), (1, .ref ((gG Γ).2.2 2))]) dX3_write_1 rfl (by decide) rfl ?_
  refine g_pick [1, 2, 0] (lv' := [(0, .ref (σ.1 30)), (1, .ref ((gG Γ).2.2 2)), (2, .int (0 : Int32))]) rfl ?_
  exact w_X3_write_2 hRd X hret 10000 (0 : Int32) m0 hf

def X3_joinAt (p0 : Int32) (m0 : Mem) : Option (Int32 × Mem) :=
  if (m0.1 30 3) = (13 : Int32) then
    if p0 = 0 then
      some ((0 : Int32), m0)
    else
      some ((-1 : Int32), m0)
  else
    if (m0.1 30 3) = (14 : Int32) then
      if p0 = (1 : Int32) then
        some ((1 : Int32), m0)
      else
        some ((-1 : Int32), m0)
    else
      if (m0.1 30 3) = (42 : Int32) then
        if p0 = (4 : Int32) then
          some ((7 : Int32), m0)
        else
          some ((-1 : Int32), m0)
      else
        if (m0.1 30 3) = (43 : Int32) then
          if p0 = (3 : Int32) then
            some ((5 : Int32), m0)
          else
            some ((-1 : Int32), m0)
        else
          if (m0.1 30 3) = (45 : Int32) then
            if p0 = (3 : Int32) then
              some ((6 : Int32), m0)
            else
              some ((-1 : Int32), m0)
          else
            if (m0.1 30 3) = (60 : Int32) then
              if p0 = (2 : Int32) then
                some ((3 : Int32), m0)
              else
                some ((-1 : Int32), m0)
            else
              if (m0.1 30 3) = (61 : Int32) then
                if p0 = (2 : Int32) then
                  some ((4 : Int32), m0)
                else
                  some ((-1 : Int32), m0)
              else
                some ((-1 : Int32), m0)
abbrev rmX3_joinAt : Room := { frames := 0, cells := 0, slots := 0, locals := 0 }

set_option maxRecDepth 100000 in
set_option maxHeartbeats 4000000 in
theorem c_X3_joinAt {l : Launch} {G : GG} {b : Nat} {σ : St} {p0 : Int32} {m0 : Mem} {r9 : Int32} {m9 : Mem} (hRd : RdOk σ) (hf : X3_joinAt p0 m0 = some (r9, m9)) : MtI l yX3_joinAt cX3_joinAt 2 (some .int) rmX3_joinAt G b σ m0 [.ref (σ.1 30), .int p0] (pEI r9 σ m9) := by
  refine mtI_of (by decide) (Nat.le_of_ble_eq_true rfl) .int rfl (fun Γ hG X hnm hr => ?_)
  have hret : ∀ (pc : Nat) (lv : List (Nat × Value)), decode cX3_joinAt pc = .ok (.ireturn, 1) → narrow .int (.int r9) = .int r9 → Go Γ b σ 0 0 pc lv [.int r9] m9 := fun pc lv d hn => hr pc lv _ _ _ d ⟨rfl, rfl, rfl⟩ hn
  show Go Γ b σ 0 0 0 [(0, .ref (σ.1 30)), (1, .int p0)] [] m0
  refine g_aload_n X 0 dX3_joinAt_0 rfl rfl ?_
  refine g_getI X 30 2 3 dX3_joinAt_1 (rd_lt hRd (by decide)) rfl (by decide) rfl iw_X3 (by decide) rfl q_fl_X3_22 ?_
  by_cases c4_0 : (m0.1 30 3) = (13 : Int32)
  · have hf := it c4_0 hf
    refine g_lookup X (tgt := 72) (off := 68) dX3_joinAt_4 (by decide) (by rw [c4_0]; rfl) (by decide) ?_
    refine g_iload_n X 1 dX3_joinAt_72 rfl rfl ?_
    refine g_if_ne X (tgt := 80) dX3_joinAt_73 (by decide) (fun c73 => ?_) (fun c73 => ?_)
    · have hf := ie c73 hf
      refine g_iconst X (v := -1) dX3_joinAt_80 (by decide) ?_
      obtain ⟨rfl, rfl⟩ := lf2 hf
      exact hret 81 _ dX3_joinAt_81 rfl
    · have hf := it c73 hf
      refine g_iconst X (v := 0) dX3_joinAt_76 (by decide) ?_
      refine g_goto X (tgt := 81) dX3_joinAt_77 (by decide) ?_
      obtain ⟨rfl, rfl⟩ := lf2 hf
      exact hret 81 _ dX3_joinAt_81 rfl
  · have hf := ie c4_0 hf
    by_cases c4_1 : (m0.1 30 3) = (14 : Int32)
    · have hf := it c4_1 hf
      refine g_lookup X (tgt := 82) (off := 78) dX3_joinAt_4 (by decide) (by rw [c4_1]; rfl) (by decide) ?_
      refine g_iload_n X 1 dX3_joinAt_82 rfl rfl ?_
      refine g_iconst X (v := 1) dX3_joinAt_83 (by decide) ?_
      refine g_icmp_ne X (tgt := 91) dX3_joinAt_84 (by decide) (fun c84 => ?_) (fun c84 => ?_)
      · have hf := ie c84 hf
        refine g_iconst X (v := -1) dX3_joinAt_91 (by decide) ?_
        obtain ⟨rfl, rfl⟩ := lf2 hf
        exact hret 92 _ dX3_joinAt_92 rfl
      · have hf := it c84 hf
        refine g_iconst X (v := 1) dX3_joinAt_87 (by decide) ?_
        refine g_goto X (tgt := 92) dX3_joinAt_88 (by decide) ?_
        obtain ⟨rfl, rfl⟩ := lf2 hf
        exact hret 92 _ dX3_joinAt_92 rfl
    · have hf := ie c4_1 hf
      by_cases c4_2 : (m0.1 30 3) = (42 : Int32)
      · have hf := it c4_2 hf
        refine g_lookup X (tgt := 138) (off := 134) dX3_joinAt_4 (by decide) (by rw [c4_2]; rfl) (by decide) ?_
        refine g_iload_n X 1 dX3_joinAt_138 rfl rfl ?_
        refine g_iconst X (v := 4) dX3_joinAt_139 (by decide) ?_
        refine g_icmp_ne X (tgt := 148) dX3_joinAt_140 (by decide) (fun c140 => ?_) (fun c140 => ?_)
        · have hf := ie c140 hf
          refine g_iconst X (v := -1) dX3_joinAt_148 (by decide) ?_
          obtain ⟨rfl, rfl⟩ := lf2 hf
          exact hret 149 _ dX3_joinAt_149 rfl
        · have hf := it c140 hf
          refine g_bipush X (v := 7) dX3_joinAt_143 (by decide) ?_
          refine g_goto X (tgt := 149) dX3_joinAt_145 (by decide) ?_
          obtain ⟨rfl, rfl⟩ := lf2 hf
          exact hret 149 _ dX3_joinAt_149 rfl
      · have hf := ie c4_2 hf
        by_cases c4_3 : (m0.1 30 3) = (43 : Int32)
        · have hf := it c4_3 hf
          refine g_lookup X (tgt := 115) (off := 111) dX3_joinAt_4 (by decide) (by rw [c4_3]; rfl) (by decide) ?_
          refine g_iload_n X 1 dX3_joinAt_115 rfl rfl ?_
          refine g_iconst X (v := 3) dX3_joinAt_116 (by decide) ?_
          refine g_icmp_ne X (tgt := 124) dX3_joinAt_117 (by decide) (fun c117 => ?_) (fun c117 => ?_)
          · have hf := ie c117 hf
            refine g_iconst X (v := -1) dX3_joinAt_124 (by decide) ?_
            obtain ⟨rfl, rfl⟩ := lf2 hf
            exact hret 125 _ dX3_joinAt_125 rfl
          · have hf := it c117 hf
            refine g_iconst X (v := 5) dX3_joinAt_120 (by decide) ?_
            refine g_goto X (tgt := 125) dX3_joinAt_121 (by decide) ?_
            obtain ⟨rfl, rfl⟩ := lf2 hf
            exact hret 125 _ dX3_joinAt_125 rfl
        · have hf := ie c4_3 hf
          by_cases c4_4 : (m0.1 30 3) = (45 : Int32)
          · have hf := it c4_4 hf
            refine g_lookup X (tgt := 126) (off := 122) dX3_joinAt_4 (by decide) (by rw [c4_4]; rfl) (by decide) ?_
            refine g_iload_n X 1 dX3_joinAt_126 rfl rfl ?_
            refine g_iconst X (v := 3) dX3_joinAt_127 (by decide) ?_
            refine g_icmp_ne X (tgt := 136) dX3_joinAt_128 (by decide) (fun c128 => ?_) (fun c128 => ?_)
            · have hf := ie c128 hf
              refine g_iconst X (v := -1) dX3_joinAt_136 (by decide) ?_
              obtain ⟨rfl, rfl⟩ := lf2 hf
              exact hret 137 _ dX3_joinAt_137 rfl
            · have hf := it c128 hf
              refine g_bipush X (v := 6) dX3_joinAt_131 (by decide) ?_
              refine g_goto X (tgt := 137) dX3_joinAt_133 (by decide) ?_
              obtain ⟨rfl, rfl⟩ := lf2 hf
              exact hret 137 _ dX3_joinAt_137 rfl
          · have hf := ie c4_4 hf
            by_cases c4_5 : (m0.1 30 3) = (60 : Int32)
            · have hf := it c4_5 hf
              refine g_lookup X (tgt := 93) (off := 89) dX3_joinAt_4 (by decide) (by rw [c4_5]; rfl) (by decide) ?_
              refine g_iload_n X 1 dX3_joinAt_93 rfl rfl ?_
              refine g_iconst X (v := 2) dX3_joinAt_94 (by decide) ?_
              refine g_icmp_ne X (tgt := 102) dX3_joinAt_95 (by decide) (fun c95 => ?_) (fun c95 => ?_)
              · have hf := ie c95 hf
                refine g_iconst X (v := -1) dX3_joinAt_102 (by decide) ?_
                obtain ⟨rfl, rfl⟩ := lf2 hf
                exact hret 103 _ dX3_joinAt_103 rfl
              · have hf := it c95 hf
                refine g_iconst X (v := 3) dX3_joinAt_98 (by decide) ?_
                refine g_goto X (tgt := 103) dX3_joinAt_99 (by decide) ?_
                obtain ⟨rfl, rfl⟩ := lf2 hf
                exact hret 103 _ dX3_joinAt_103 rfl
            · have hf := ie c4_5 hf
              by_cases c4_6 : (m0.1 30 3) = (61 : Int32)
              · have hf := it c4_6 hf
                refine g_lookup X (tgt := 104) (off := 100) dX3_joinAt_4 (by decide) (by rw [c4_6]; rfl) (by decide) ?_
                refine g_iload_n X 1 dX3_joinAt_104 rfl rfl ?_
                refine g_iconst X (v := 2) dX3_joinAt_105 (by decide) ?_
                refine g_icmp_ne X (tgt := 113) dX3_joinAt_106 (by decide) (fun c106 => ?_) (fun c106 => ?_)
                · have hf := ie c106 hf
                  refine g_iconst X (v := -1) dX3_joinAt_113 (by decide) ?_
                  obtain ⟨rfl, rfl⟩ := lf2 hf
                  exact hret 114 _ dX3_joinAt_114 rfl
                · have hf := it c106 hf
                  refine g_iconst X (v := 4) dX3_joinAt_109 (by decide) ?_
                  refine g_goto X (tgt := 114) dX3_joinAt_110 (by decide) ?_
                  obtain ⟨rfl, rfl⟩ := lf2 hf
                  exact hret 114 _ dX3_joinAt_114 rfl
              · have hf := ie c4_6 hf
                refine g_lookup X (tgt := 150) (off := 146) dX3_joinAt_4 (by decide) ((lv_osw c4_0 rfl).trans ((lv_osw c4_1 rfl).trans ((lv_osw c4_2 rfl).trans ((lv_osw c4_3 rfl).trans ((lv_osw c4_4 rfl).trans ((lv_osw c4_5 rfl).trans ((lv_osw c4_6 rfl).trans rfl))))))) (by decide) ?_
                refine g_iconst X (v := -1) dX3_joinAt_150 (by decide) ?_
                obtain ⟨rfl, rfl⟩ := lf2 hf
                exact hret 151 _ dX3_joinAt_151 rfl

def X3_fail (m0 : Mem) : Option (Mem) :=
  if (m0.1 30 2) = (-1 : Int32) then
    some (pI (pI m0 30 2 (m0.1 30 4)) 30 3 (1 : Int32))
  else
    some (pI m0 30 3 (1 : Int32))
abbrev rmX3_fail : Room := { frames := 0, cells := 0, slots := 0, locals := 0 }

set_option maxRecDepth 100000 in
set_option maxHeartbeats 4000000 in
theorem c_X3_fail {l : Launch} {G : GG} {b : Nat} {σ : St} {m0 : Mem} {m9 : Mem} (hRd : RdOk σ) (hf : X3_fail m0 = some m9) : MtV l yX3_fail cX3_fail 1 (none) rmX3_fail G b σ m0 [.ref (σ.1 30)] (pEV σ m9) := by
  refine mtV_of (by decide) (Nat.le_of_ble_eq_true rfl) rfl (fun Γ hG X hnm hr => ?_)
  have hret : ∀ (pc : Nat) (lv : List (Nat × Value)), decode cX3_fail pc = .ok (.return_, 1) → Go Γ b σ 0 0 pc lv [] m9 := fun pc lv d => hr pc lv _ _ d ⟨rfl, rfl⟩
  show Go Γ b σ 0 0 0 [(0, .ref (σ.1 30))] [] m0
  refine g_aload_n X 0 dX3_fail_0 rfl rfl ?_
  refine g_getI X 30 2 2 dX3_fail_1 (rd_lt hRd (by decide)) rfl (by decide) rfl iw_X3 (by decide) rfl q_fl_X3_19 ?_
  refine g_iconst X (v := -1) dX3_fail_4 (by decide) ?_
  refine g_icmp_ne X (tgt := 16) dX3_fail_5 (by decide) (fun c5 => ?_) (fun c5 => ?_)
  · have hf := ie c5 hf
    refine g_aload_n X 0 dX3_fail_16 rfl rfl ?_
    refine g_iconst X (v := 1) dX3_fail_17 (by decide) ?_
    refine g_putI X (tyf := tyX3) 30 2 3 dX3_fail_18 (rd_lt hRd (by decide)) rfl (by decide) rfl iw_X3 (by decide) rfl q_fl_X3_22 tyX3_ok nmX3 rfl rfl rfl ?_
    obtain rfl := lf1 hf
    exact hret 21 _ dX3_fail_21
  · have hf := it c5 hf
    refine g_aload_n X 0 dX3_fail_8 rfl rfl ?_
    refine g_aload_n X 0 dX3_fail_9 rfl rfl ?_
    refine g_getI X 30 2 4 dX3_fail_10 (rd_lt hRd (by decide)) rfl (by decide) rfl iw_X3 (by decide) rfl q_fl_X3_25 ?_
    refine g_putI X (tyf := tyX3) 30 2 2 dX3_fail_13 (rd_lt hRd (by decide)) rfl (by decide) rfl iw_X3 (by decide) rfl q_fl_X3_19 tyX3_ok nmX3 rfl rfl rfl ?_
    refine g_aload_n X 0 dX3_fail_16 rfl rfl ?_
    refine g_iconst X (v := 1) dX3_fail_17 (by decide) ?_
    refine g_putI X (tyf := tyX3) 30 2 3 dX3_fail_18 (rd_lt hRd (by decide)) rfl (by decide) rfl iw_X3 (by decide) rfl q_fl_X3_22 tyX3_ok nmX3 rfl rfl rfl ?_
    obtain rfl := lf1 hf
    exact hret 21 _ dX3_fail_21

theorem kV_X3_66 : wcV RX3 66 RX3 yX3_fail cX3_fail 1 (none) 0 := ⟨q_ml_X3_66, q_im_yX3_fail, q_se_yX3_fail, q_in_X3, q_co_yX3_fail, by decide +kernel⟩

def X3_opens (m0 : Mem) : Option (Int32 × Mem) :=
  if (m0.1 30 7) < (5 : Int32) then
    some ((1 : Int32), pI m0 30 7 ((m0.1 30 7) + (1 : Int32)))
  else
    bv (X3_fail m0) fun m9 =>
    some ((0 : Int32), m9)
abbrev rmX3_opens : Room := { frames := 1, cells := 0, slots := 0, locals := 20 }

set_option maxRecDepth 100000 in
set_option maxHeartbeats 4000000 in
theorem c_X3_opens {l : Launch} {G : GG} {b : Nat} {σ : St} {m0 : Mem} {r9 : Int32} {m9 : Mem} (hRd : RdOk σ) (hf : X3_opens m0 = some (r9, m9)) : MtI l yX3_opens cX3_opens 1 (some .boolean) rmX3_opens G b σ m0 [.ref (σ.1 30)] (pEI r9 σ m9) := by
  refine mtI_of (by decide) (Nat.le_of_ble_eq_true rfl) .boolean rfl (fun Γ hG X hnm hr => ?_)
  have hret : ∀ (pc : Nat) (lv : List (Nat × Value)), decode cX3_opens pc = .ok (.ireturn, 1) → narrow .boolean (.int r9) = .int r9 → Go Γ b σ 0 0 pc lv [.int r9] m9 := fun pc lv d hn => hr pc lv _ _ _ d ⟨rfl, rfl, rfl⟩ hn
  show Go Γ b σ 0 0 0 [(0, .ref (σ.1 30))] [] m0
  refine g_aload_n X 0 dX3_opens_0 rfl rfl ?_
  refine g_getI X 30 2 7 dX3_opens_1 (rd_lt hRd (by decide)) rfl (by decide) rfl iw_X3 (by decide) rfl q_fl_X3_34 ?_
  refine g_iconst X (v := 5) dX3_opens_4 (by decide) ?_
  refine g_icmp_lt X (tgt := 14) dX3_opens_5 (by decide) (fun c5 => ?_) (fun c5 => ?_)
  · have hf := it c5 hf
    refine g_aload_n X 0 dX3_opens_14 rfl rfl ?_
    refine g_dup X dX3_opens_15 rfl ?_
    refine g_getI X 30 2 7 dX3_opens_16 (rd_lt hRd (by decide)) rfl (by decide) rfl iw_X3 (by decide) rfl q_fl_X3_34 ?_
    refine g_iconst X (v := 1) dX3_opens_19 (by decide) ?_
    refine g_iadd X dX3_opens_20 ?_
    refine g_putI X (tyf := tyX3) 30 2 7 dX3_opens_21 (rd_lt hRd (by decide)) rfl (by decide) rfl iw_X3 (by decide) rfl q_fl_X3_34 tyX3_ok nmX3 rfl rfl rfl ?_
    refine g_iconst X (v := 1) dX3_opens_24 (by decide) ?_
    obtain ⟨rfl, rfl⟩ := lf2 hf
    exact hret 25 _ dX3_opens_25 rfl
  · have hf := ie c5 hf
    refine g_aload_n X 0 dX3_opens_8 rfl rfl ?_
    obtain ⟨m9, h9, hf⟩ := bv_i hf
    refine g_eVV X 30 2 [] kV_X3_66 (c_X3_fail hRd h9) dX3_opens_9 rfl rfl (rd_lt hRd (by decide)) rfl (by decide) rfl rfl ⟨(Nat.le_of_ble_eq_true rfl), (Nat.le_of_ble_eq_true rfl)⟩ ⟨rfl, rfl⟩ ⟨(Nat.zero_le _), (Nat.zero_le _)⟩ (Nat.le_of_ble_eq_true rfl) ?_
    refine g_iconst X (v := 0) dX3_opens_12 (by decide) ?_
    obtain ⟨rfl, rfl⟩ := lf2 hf
    exact hret 13 _ dX3_opens_13 rfl

def X3_takeWord_186 (k69 : Int32 → Int32 → Int32 → Int32 → Mem → Option (Mem)) (v1 : Int32) (v2 : Int32) (v3 : Int32) (v4 : Int32) (m0 : Mem) : Option (Mem) :=
  k69 v1 v2 v3 (v4 + (1 : Int32)) m0
def X3_takeWord_176 (k69 : Int32 → Int32 → Int32 → Int32 → Mem → Option (Mem)) (v1 : Int32) (v4 : Int32) (m0 : Mem) : Option (Mem) :=
  X3_takeWord_186 k69 (v1 + (1 : Int32)) (m0.1 30 4) (1 : Int32) v4 m0
def X3_takeWord_165 (k69 : Int32 → Int32 → Int32 → Int32 → Mem → Option (Mem)) (v1 : Int32) (v4 : Int32) (s0 : Int32) (m0 : Mem) : Option (Mem) :=
  X3_takeWord_176 k69 v1 v4 (pI (pI m0 30 3 s0) 30 5 (v1 - (6 : Int32)))
def X3_takeWord_131 (k69 : Int32 → Int32 → Int32 → Int32 → Mem → Option (Mem)) (v1 : Int32) (v2 : Int32) (v4 : Int32) (s0 : Int32) (m0 : Mem) : Option (Mem) :=
  X3_takeWord_186 k69 v1 (v2 + (1 : Int32)) s0 v4 m0
def X3_takeWord_130 (k69 : Int32 → Int32 → Int32 → Int32 → Mem → Option (Mem)) (v1 : Int32) (v2 : Int32) (v4 : Int32) (m0 : Mem) : Option (Mem) :=
  X3_takeWord_131 k69 v1 v2 v4 (0 : Int32) m0
def X3_takeWord_69 : Nat → Int32 → Int32 → Int32 → Int32 → Mem → Option (Mem)
  | 0, _, _, _, _, _ => none
  | n + 1, v1, v2, v3, v4, m0 =>
    bi (J0_length_8abf5 1 m0) fun r73 m73 =>
    if r73 ≤ v4 then
      some m73
    else
      if (m73.1 30 3) = (1 : Int32) then
        bi (J0_charAt_5068e 1 v4 m73) fun r91 m91 =>
        if r91 = (32 : Int32) then
          if v3 = 0 then
            X3_takeWord_176 (X3_takeWord_69 n) v1 v4 m91
          else
            if v2 = (m91.1 30 6) then
              if (6 : Int32) ≤ v1 then
                X3_takeWord_165 (X3_takeWord_69 n) v1 v4 (3 : Int32) m91
              else
                X3_takeWord_165 (X3_takeWord_69 n) v1 v4 ((10 : Int32) + v1) m91
            else
              X3_takeWord_176 (X3_takeWord_69 n) v1 v4 m91
        else
          if v3 = 0 then
            X3_takeWord_130 (X3_takeWord_69 n) v1 v2 v4 m91
          else
            if (m91.1 30 6) ≤ v2 then
              X3_takeWord_130 (X3_takeWord_69 n) v1 v2 v4 m91
            else
              if inn v2 160 then
              if (m91.1 31 v2.toNatClampNeg) = r91 then
                X3_takeWord_131 (X3_takeWord_69 n) v1 v2 v4 (1 : Int32) m91
              else
                X3_takeWord_130 (X3_takeWord_69 n) v1 v2 v4 m91
              else none
      else
        some m73
def X3_takeWord_52 (m0 : Mem) : Option (Mem) :=
  X3_takeWord_69 10000 (0 : Int32) ((pI m0 30 3 (1 : Int32)).1 30 4) (1 : Int32) (0 : Int32) (pI m0 30 3 (1 : Int32))
def X3_takeWord_0 : Nat → Mem → Option (Mem)
  | 0, _ => none
  | n + 1, m0 =>
    if (m0.1 30 1) ≤ (m0.1 30 6) then
      X3_takeWord_52 m0
    else
      if inn (m0.1 30 6) 160 then
      if (m0.1 31 (m0.1 30 6).toNatClampNeg) < (97 : Int32) then
        X3_takeWord_52 m0
      else
        if inn (m0.1 30 6) 160 then
        if (122 : Int32) < (m0.1 31 (m0.1 30 6).toNatClampNeg) then
          X3_takeWord_52 m0
        else
          X3_takeWord_0 n (pI m0 30 6 ((m0.1 30 6) + (1 : Int32)))
        else none
      else none
def X3_takeWord (m0 : Mem) : Option (Mem) :=
  X3_takeWord_0 10000 m0
abbrev rmX3_takeWord : Room := { frames := 4, cells := 0, slots := 0, locals := 123 }
set_option maxRecDepth 100000 in
set_option maxHeartbeats 4000000 in
theorem w_X3_takeWord_186 {Γ : Ga} {b : Nat} {σ : St} {k69 : Int32 → Int32 → Int32 → Int32 → Mem → Option (Mem)} {m9 : Mem} (hRd : RdOk σ) (X : Cx Γ b cX3_takeWord 6 RX3 (none) rmX3_takeWord) (hret : ∀ (pc : Nat) (lv : List (Nat × Value)), decode cX3_takeWord pc = .ok (.return_, 1) → Go Γ b σ 0 0 pc lv [] m9) (hk69 : ∀ (v1 : Int32) (v2 : Int32) (v3 : Int32) (v4 : Int32) (m0 : Mem), k69 v1 v2 v3 v4 m0 = some m9 → Go Γ b σ 0 0 69 [(0, .ref (σ.1 30)), (1, .int v1), (2, .int v2), (3, .int v3), (4, .int v4)] [] m0) (v1 : Int32) (v2 : Int32) (v3 : Int32) (v4 : Int32) (m0 : Mem) (hf : X3_takeWord_186 k69 v1 v2 v3 v4 m0 = some m9) : Go Γ b σ 0 0 186 [(0, .ref (σ.1 30)), (1, .int v1), (2, .int v2), (3, .int v3), (4, .int v4)] [] m0 := by
  refine g_iinc X 4 (v := v4 + (1 : Int32)) (lv' := [(4, .int (v4 + (1 : Int32))), (0, .ref (σ.1 30)), (1, .int v1), (2, .int v2), (3, .int v3)]) dX3_takeWord_186 rfl rfl (by decide) rfl ?_
  refine g_goto X (tgt := 69) dX3_takeWord_189 (by decide) ?_
  refine g_pick [1, 2, 3, 4, 0] (lv' := [(0, .ref (σ.1 30)), (1, .int v1), (2, .int v2), (3, .int v3), (4, .int (v4 + (1 : Int32)))]) rfl ?_
  exact hk69 v1 v2 v3 (v4 + (1 : Int32)) m0 hf
set_option maxRecDepth 100000 in
set_option maxHeartbeats 4000000 in
theorem w_X3_takeWord_176 {Γ : Ga} {b : Nat} {σ : St} {k69 : Int32 → Int32 → Int32 → Int32 → Mem → Option (Mem)} {m9 : Mem} (hRd : RdOk σ) (X : Cx Γ b cX3_takeWord 6 RX3 (none) rmX3_takeWord) (hret : ∀ (pc : Nat) (lv : List (Nat × Value)), decode cX3_takeWord pc = .ok (.return_, 1) → Go Γ b σ 0 0 pc lv [] m9) (hk69 : ∀ (v1 : Int32) (v2 : Int32) (v3 : Int32) (v4 : Int32) (m0 : Mem), k69 v1 v2 v3 v4 m0 = some m9 → Go Γ b σ 0 0 69 [(0, .ref (σ.1 30)), (1, .int v1), (2, .int v2), (3, .int v3), (4, .int v4)] [] m0) (v1 : Int32) (v4 : Int32) (m0 : Mem) (hf : X3_takeWord_176 k69 v1 v4 m0 = some m9) : Go Γ b σ 0 0 176 [(0, .ref (σ.1 30)), (1, .int v1), (4, .int v4)] [] m0 := by
  refine g_iinc X 1 (v := v1 + (1 : Int32)) (lv' := [(1, .int (v1 + (1 : Int32))), (0, .ref (σ.1 30)), (4, .int v4)]) dX3_takeWord_176 rfl rfl (by decide) rfl ?_
  refine g_aload_n X 1 dX3_takeWord_179 rfl rfl ?_
  refine g_getI X 30 2 4 dX3_takeWord_180 (rd_lt hRd (by decide)) rfl (by decide) rfl iw_X3 (by decide) rfl q_fl_X3_25 ?_
  refine g_istore_n X (lv' := [(2, .int (m0.1 30 4)), (1, .int (v1 + (1 : Int32))), (0, .ref (σ.1 30)), (4, .int v4)]) dX3_takeWord_183 rfl (by decide) rfl ?_
  refine g_iconst X (v := 1) dX3_takeWord_184 (by decide) ?_
  refine g_istore_n X (lv' := [(3, .int (1 : Int32)), (2, .int (m0.1 30 4)), (1, .int (v1 + (1 : Int32))), (0, .ref (σ.1 30)), (4, .int v4)]) dX3_takeWord_185 rfl (by decide) rfl ?_
  refine g_pick [3, 2, 1, 0, 4] (lv' := [(0, .ref (σ.1 30)), (1, .int (v1 + (1 : Int32))), (2, .int (m0.1 30 4)), (3, .int (1 : Int32)), (4, .int v4)]) rfl ?_
  exact w_X3_takeWord_186 hRd X hret hk69 (v1 + (1 : Int32)) (m0.1 30 4) (1 : Int32) v4 m0 hf
set_option maxRecDepth 100000 in
set_option maxHeartbeats 4000000 in
theorem w_X3_takeWord_165 {Γ : Ga} {b : Nat} {σ : St} {k69 : Int32 → Int32 → Int32 → Int32 → Mem → Option (Mem)} {m9 : Mem} (hRd : RdOk σ) (X : Cx Γ b cX3_takeWord 6 RX3 (none) rmX3_takeWord) (hret : ∀ (pc : Nat) (lv : List (Nat × Value)), decode cX3_takeWord pc = .ok (.return_, 1) → Go Γ b σ 0 0 pc lv [] m9) (hk69 : ∀ (v1 : Int32) (v2 : Int32) (v3 : Int32) (v4 : Int32) (m0 : Mem), k69 v1 v2 v3 v4 m0 = some m9 → Go Γ b σ 0 0 69 [(0, .ref (σ.1 30)), (1, .int v1), (2, .int v2), (3, .int v3), (4, .int v4)] [] m0) (v1 : Int32) (v4 : Int32) (s0 : Int32) (m0 : Mem) (hf : X3_takeWord_165 k69 v1 v4 s0 m0 = some m9) : Go Γ b σ 0 0 165 [(0, .ref (σ.1 30)), (1, .int v1), (4, .int v4)] [.int s0, .ref (σ.1 30)] m0 := by
  refine g_putI X (tyf := tyX3) 30 2 3 dX3_takeWord_165 (rd_lt hRd (by decide)) rfl (by decide) rfl iw_X3 (by decide) rfl q_fl_X3_22 tyX3_ok nmX3 rfl rfl rfl ?_
  refine g_aload_n X 0 dX3_takeWord_168 rfl rfl ?_
  refine g_iload_n X 1 dX3_takeWord_169 rfl rfl ?_
  refine g_bipush X (v := 6) dX3_takeWord_170 (by decide) ?_
  refine g_isub X dX3_takeWord_172 ?_
  refine g_putI X (tyf := tyX3) 30 2 5 dX3_takeWord_173 (rd_lt hRd (by decide)) rfl (by decide) rfl iw_X3 (by decide) rfl q_fl_X3_28 tyX3_ok nmX3 rfl rfl rfl ?_
  exact w_X3_takeWord_176 hRd X hret hk69 v1 v4 (pI (pI m0 30 3 s0) 30 5 (v1 - (6 : Int32))) hf
set_option maxRecDepth 100000 in
set_option maxHeartbeats 4000000 in
theorem w_X3_takeWord_131 {Γ : Ga} {b : Nat} {σ : St} {k69 : Int32 → Int32 → Int32 → Int32 → Mem → Option (Mem)} {m9 : Mem} (hRd : RdOk σ) (X : Cx Γ b cX3_takeWord 6 RX3 (none) rmX3_takeWord) (hret : ∀ (pc : Nat) (lv : List (Nat × Value)), decode cX3_takeWord pc = .ok (.return_, 1) → Go Γ b σ 0 0 pc lv [] m9) (hk69 : ∀ (v1 : Int32) (v2 : Int32) (v3 : Int32) (v4 : Int32) (m0 : Mem), k69 v1 v2 v3 v4 m0 = some m9 → Go Γ b σ 0 0 69 [(0, .ref (σ.1 30)), (1, .int v1), (2, .int v2), (3, .int v3), (4, .int v4)] [] m0) (v1 : Int32) (v2 : Int32) (v4 : Int32) (s0 : Int32) (m0 : Mem) (hf : X3_takeWord_131 k69 v1 v2 v4 s0 m0 = some m9) : Go Γ b σ 0 0 131 [(0, .ref (σ.1 30)), (1, .int v1), (2, .int v2), (4, .int v4)] [.int s0] m0 := by
  refine g_istore_n X (lv' := [(3, .int s0), (0, .ref (σ.1 30)), (1, .int v1), (2, .int v2), (4, .int v4)]) dX3_takeWord_131 rfl (by decide) rfl ?_
  refine g_iinc X 3 (v := v2 + (1 : Int32)) (lv' := [(2, .int (v2 + (1 : Int32))), (3, .int s0), (0, .ref (σ.1 30)), (1, .int v1), (4, .int v4)]) dX3_takeWord_132 rfl rfl (by decide) rfl ?_
  refine g_goto X (tgt := 186) dX3_takeWord_135 (by decide) ?_
  refine g_pick [2, 3, 0, 1, 4] (lv' := [(0, .ref (σ.1 30)), (1, .int v1), (2, .int (v2 + (1 : Int32))), (3, .int s0), (4, .int v4)]) rfl ?_
  exact w_X3_takeWord_186 hRd X hret hk69 v1 (v2 + (1 : Int32)) s0 v4 m0 hf
set_option maxRecDepth 100000 in
set_option maxHeartbeats 4000000 in
theorem w_X3_takeWord_130 {Γ : Ga} {b : Nat} {σ : St} {k69 : Int32 → Int32 → Int32 → Int32 → Mem → Option (Mem)} {m9 : Mem} (hRd : RdOk σ) (X : Cx Γ b cX3_takeWord 6 RX3 (none) rmX3_takeWord) (hret : ∀ (pc : Nat) (lv : List (Nat × Value)), decode cX3_takeWord pc = .ok (.return_, 1) → Go Γ b σ 0 0 pc lv [] m9) (hk69 : ∀ (v1 : Int32) (v2 : Int32) (v3 : Int32) (v4 : Int32) (m0 : Mem), k69 v1 v2 v3 v4 m0 = some m9 → Go Γ b σ 0 0 69 [(0, .ref (σ.1 30)), (1, .int v1), (2, .int v2), (3, .int v3), (4, .int v4)] [] m0) (v1 : Int32) (v2 : Int32) (v4 : Int32) (m0 : Mem) (hf : X3_takeWord_130 k69 v1 v2 v4 m0 = some m9) : Go Γ b σ 0 0 130 [(0, .ref (σ.1 30)), (1, .int v1), (2, .int v2), (4, .int v4)] [] m0 := by
  refine g_iconst X (v := 0) dX3_takeWord_130 (by decide) ?_
  exact w_X3_takeWord_131 hRd X hret hk69 v1 v2 v4 (0 : Int32) m0 hf
set_option maxRecDepth 100000 in
set_option maxHeartbeats 4000000 in
theorem w_X3_takeWord_69 {Γ : Ga} {b : Nat} {σ : St} {m9 : Mem} (hRd : RdOk σ) (X : Cx Γ b cX3_takeWord 6 RX3 (none) rmX3_takeWord) (hret : ∀ (pc : Nat) (lv : List (Nat × Value)), decode cX3_takeWord pc = .ok (.return_, 1) → Go Γ b σ 0 0 pc lv [] m9) : ∀ (n : Nat) (v1 : Int32) (v2 : Int32) (v3 : Int32) (v4 : Int32) (m0 : Mem), X3_takeWord_69 n v1 v2 v3 v4 m0 = some m9 → Go Γ b σ 0 0 69 [(0, .ref (σ.1 30)), (1, .int v1), (2, .int v2), (3, .int v3), (4, .int v4)] [] m0 := by
  intro n
  induction n with
  | zero =>
    intro v1 v2 v3 v4 m0 hf
    cases hf
  | succ n ih =>
    intro v1 v2 v3 v4 m0 hf
    refine g_iload X 4 dX3_takeWord_69 rfl ?_
    refine g_ldcS1 X dX3_takeWord_71 ?_
    obtain ⟨r73, m73, h73, hf⟩ := bi_i hf
    refine g_xVI X 1 [] (by decide) kV_X3_43 (c_J0_length_8abf5 (by decide) h73) dX3_takeWord_73 rfl rfl ⟨(Nat.le_of_ble_eq_true rfl), (Nat.le_of_ble_eq_true rfl)⟩ ⟨rfl, rfl⟩ ⟨(Nat.zero_le _), (Nat.zero_le _)⟩ (Nat.le_of_ble_eq_true rfl) ?_
    refine g_icmp_ge X (tgt := 192) dX3_takeWord_76 (by decide) (fun c76 => ?_) (fun c76 => ?_)
    · have hf := it c76 hf
      obtain rfl := lf1 hf
      exact hret 192 _ dX3_takeWord_192
    · have hf := ie c76 hf
      refine g_aload_n X 0 dX3_takeWord_79 rfl rfl ?_
      refine g_getI X 30 2 3 dX3_takeWord_80 (rd_lt hRd (by decide)) rfl (by decide) rfl iw_X3 (by decide) rfl q_fl_X3_22 ?_
      refine g_iconst X (v := 1) dX3_takeWord_83 (by decide) ?_
      refine g_icmp_ne X (tgt := 192) dX3_takeWord_84 (by decide) (fun c84 => ?_) (fun c84 => ?_)
      · have hf := ie c84 hf
        obtain rfl := lf1 hf
        exact hret 192 _ dX3_takeWord_192
      · have hf := it c84 hf
        refine g_ldcS1 X dX3_takeWord_87 ?_
        refine g_iload X 4 dX3_takeWord_89 rfl ?_
        obtain ⟨r91, m91, h91, hf⟩ := bi_i hf
        refine g_xVI X 1 [.int v4] (by decide) kV_X3_48 (c_J0_charAt_5068e (by decide) h91) dX3_takeWord_91 rfl rfl ⟨(Nat.le_of_ble_eq_true rfl), (Nat.le_of_ble_eq_true rfl)⟩ ⟨rfl, rfl⟩ ⟨(Nat.zero_le _), (Nat.zero_le _)⟩ (Nat.le_of_ble_eq_true rfl) ?_
        refine g_istore X (lv' := [(5, .int r91), (0, .ref (σ.1 30)), (1, .int v1), (2, .int v2), (3, .int v3), (4, .int v4)]) dX3_takeWord_94 (by decide) rfl ?_
        refine g_iload X 0 dX3_takeWord_96 rfl ?_
        refine g_bipush X (v := 32) dX3_takeWord_98 (by decide) ?_
        refine g_icmp_eq X (tgt := 138) dX3_takeWord_100 (by decide) (fun c100 => ?_) (fun c100 => ?_)
        · have hf := it c100 hf
          refine g_iload_n X 4 dX3_takeWord_138 rfl rfl ?_
          refine g_if_eq X (tgt := 176) dX3_takeWord_139 (by decide) (fun c139 => ?_) (fun c139 => ?_)
          · have hf := it c139 hf
            refine g_pick [1, 2, 5] (lv' := [(0, .ref (σ.1 30)), (1, .int v1), (4, .int v4)]) rfl ?_
            exact w_X3_takeWord_176 hRd X hret ih v1 v4 m91 hf
          · have hf := ie c139 hf
            refine g_iload_n X 3 dX3_takeWord_142 rfl rfl ?_
            refine g_aload_n X 1 dX3_takeWord_143 rfl rfl ?_
            refine g_getI X 30 2 6 dX3_takeWord_144 (rd_lt hRd (by decide)) rfl (by decide) rfl iw_X3 (by decide) rfl q_fl_X3_31 ?_
            refine g_icmp_ne X (tgt := 176) dX3_takeWord_147 (by decide) (fun c147 => ?_) (fun c147 => ?_)
            · have hf := ie c147 hf
              refine g_pick [1, 2, 5] (lv' := [(0, .ref (σ.1 30)), (1, .int v1), (4, .int v4)]) rfl ?_
              exact w_X3_takeWord_176 hRd X hret ih v1 v4 m91 hf
            · have hf := it c147 hf
              refine g_aload_n X 1 dX3_takeWord_150 rfl rfl ?_
              refine g_iload_n X 2 dX3_takeWord_151 rfl rfl ?_
              refine g_bipush X (v := 6) dX3_takeWord_152 (by decide) ?_
              refine g_icmp_ge X (tgt := 164) dX3_takeWord_154 (by decide) (fun c154 => ?_) (fun c154 => ?_)
              · have hf := it c154 hf
                refine g_iconst X (v := 3) dX3_takeWord_164 (by decide) ?_
                refine g_pick [1, 2, 5] (lv' := [(0, .ref (σ.1 30)), (1, .int v1), (4, .int v4)]) rfl ?_
                exact w_X3_takeWord_165 hRd X hret ih v1 v4 (3 : Int32) m91 hf
              · have hf := ie c154 hf
                refine g_bipush X (v := 10) dX3_takeWord_157 (by decide) ?_
                refine g_iload_n X 2 dX3_takeWord_159 rfl rfl ?_
                refine g_iadd X dX3_takeWord_160 ?_
                refine g_goto X (tgt := 165) dX3_takeWord_161 (by decide) ?_
                refine g_pick [1, 2, 5] (lv' := [(0, .ref (σ.1 30)), (1, .int v1), (4, .int v4)]) rfl ?_
                exact w_X3_takeWord_165 hRd X hret ih v1 v4 ((10 : Int32) + v1) m91 hf
        · have hf := ie c100 hf
          refine g_iload_n X 4 dX3_takeWord_103 rfl rfl ?_
          refine g_if_eq X (tgt := 130) dX3_takeWord_104 (by decide) (fun c104 => ?_) (fun c104 => ?_)
          · have hf := it c104 hf
            refine g_pick [1, 2, 3, 5] (lv' := [(0, .ref (σ.1 30)), (1, .int v1), (2, .int v2), (4, .int v4)]) rfl ?_
            exact w_X3_takeWord_130 hRd X hret ih v1 v2 v4 m91 hf
          · have hf := ie c104 hf
            refine g_iload_n X 3 dX3_takeWord_107 rfl rfl ?_
            refine g_aload_n X 1 dX3_takeWord_108 rfl rfl ?_
            refine g_getI X 30 2 6 dX3_takeWord_109 (rd_lt hRd (by decide)) rfl (by decide) rfl iw_X3 (by decide) rfl q_fl_X3_31 ?_
            refine g_icmp_ge X (tgt := 130) dX3_takeWord_112 (by decide) (fun c112 => ?_) (fun c112 => ?_)
            · have hf := it c112 hf
              refine g_pick [1, 2, 3, 5] (lv' := [(0, .ref (σ.1 30)), (1, .int v1), (2, .int v2), (4, .int v4)]) rfl ?_
              exact w_X3_takeWord_130 hRd X hret ih v1 v2 v4 m91 hf
            · have hf := ie c112 hf
              refine g_aload_n X 1 dX3_takeWord_115 rfl rfl ?_
              refine g_getr X (x := σ.1 31) 30 2 0 dX3_takeWord_116 (rd_lt hRd (by decide)) rfl (by decide) rfl iw_X3 (by decide) rfl q_fl_X3_9 hRd.2.1 ?_
              refine g_iload_n X 3 dX3_takeWord_119 rfl rfl ?_
              obtain ⟨h120, hf⟩ := grd hf
              refine g_iald X 31 (n := 160) dX3_takeWord_120 (rd_lt hRd (by decide)) rfl hRd.2.2.2.1 h120 ?_
              refine g_iload X 0 dX3_takeWord_121 rfl ?_
              refine g_icmp_ne X (tgt := 130) dX3_takeWord_123 (by decide) (fun c123 => ?_) (fun c123 => ?_)
              · have hf := ie c123 hf
                refine g_pick [1, 2, 3, 5] (lv' := [(0, .ref (σ.1 30)), (1, .int v1), (2, .int v2), (4, .int v4)]) rfl ?_
                exact w_X3_takeWord_130 hRd X hret ih v1 v2 v4 m91 hf
              · have hf := it c123 hf
                refine g_iconst X (v := 1) dX3_takeWord_126 (by decide) ?_
                refine g_goto X (tgt := 131) dX3_takeWord_127 (by decide) ?_
                refine g_pick [1, 2, 3, 5] (lv' := [(0, .ref (σ.1 30)), (1, .int v1), (2, .int v2), (4, .int v4)]) rfl ?_
                exact w_X3_takeWord_131 hRd X hret ih v1 v2 v4 (1 : Int32) m91 hf
set_option maxRecDepth 100000 in
set_option maxHeartbeats 4000000 in
theorem w_X3_takeWord_52 {Γ : Ga} {b : Nat} {σ : St} {m9 : Mem} (hRd : RdOk σ) (X : Cx Γ b cX3_takeWord 6 RX3 (none) rmX3_takeWord) (hret : ∀ (pc : Nat) (lv : List (Nat × Value)), decode cX3_takeWord pc = .ok (.return_, 1) → Go Γ b σ 0 0 pc lv [] m9) (m0 : Mem) (hf : X3_takeWord_52 m0 = some m9) : Go Γ b σ 0 0 52 [(0, .ref (σ.1 30))] [] m0 := by
  refine g_aload_n X 0 dX3_takeWord_52 rfl rfl ?_
  refine g_iconst X (v := 1) dX3_takeWord_53 (by decide) ?_
  refine g_putI X (tyf := tyX3) 30 2 3 dX3_takeWord_54 (rd_lt hRd (by decide)) rfl (by decide) rfl iw_X3 (by decide) rfl q_fl_X3_22 tyX3_ok nmX3 rfl rfl rfl ?_
  refine g_iconst X (v := 0) dX3_takeWord_57 (by decide) ?_
  refine g_istore_n X (lv' := [(1, .int (0 : Int32)), (0, .ref (σ.1 30))]) dX3_takeWord_58 rfl (by decide) rfl ?_
  refine g_aload_n X 1 dX3_takeWord_59 rfl rfl ?_
  refine g_getI X 30 2 4 dX3_takeWord_60 (rd_lt hRd (by decide)) rfl (by decide) rfl iw_X3 (by decide) rfl q_fl_X3_25 ?_
  refine g_istore_n X (lv' := [(2, .int ((pI m0 30 3 (1 : Int32)).1 30 4)), (1, .int (0 : Int32)), (0, .ref (σ.1 30))]) dX3_takeWord_63 rfl (by decide) rfl ?_
  refine g_iconst X (v := 1) dX3_takeWord_64 (by decide) ?_
  refine g_istore_n X (lv' := [(3, .int (1 : Int32)), (2, .int ((pI m0 30 3 (1 : Int32)).1 30 4)), (1, .int (0 : Int32)), (0, .ref (σ.1 30))]) dX3_takeWord_65 rfl (by decide) rfl ?_
  refine g_iconst X (v := 0) dX3_takeWord_66 (by decide) ?_
  refine g_istore X (lv' := [(4, .int (0 : Int32)), (3, .int (1 : Int32)), (2, .int ((pI m0 30 3 (1 : Int32)).1 30 4)), (1, .int (0 : Int32)), (0, .ref (σ.1 30))]) dX3_takeWord_67 (by decide) rfl ?_
  refine g_pick [4, 3, 2, 1, 0] (lv' := [(0, .ref (σ.1 30)), (1, .int (0 : Int32)), (2, .int ((pI m0 30 3 (1 : Int32)).1 30 4)), (3, .int (1 : Int32)), (4, .int (0 : Int32))]) rfl ?_
  exact w_X3_takeWord_69 hRd X hret 10000 (0 : Int32) ((pI m0 30 3 (1 : Int32)).1 30 4) (1 : Int32) (0 : Int32) (pI m0 30 3 (1 : Int32)) hf
set_option maxRecDepth 100000 in
set_option maxHeartbeats 4000000 in
theorem w_X3_takeWord_0 {Γ : Ga} {b : Nat} {σ : St} {m9 : Mem} (hRd : RdOk σ) (X : Cx Γ b cX3_takeWord 6 RX3 (none) rmX3_takeWord) (hret : ∀ (pc : Nat) (lv : List (Nat × Value)), decode cX3_takeWord pc = .ok (.return_, 1) → Go Γ b σ 0 0 pc lv [] m9) : ∀ (n : Nat) (m0 : Mem), X3_takeWord_0 n m0 = some m9 → Go Γ b σ 0 0 0 [(0, .ref (σ.1 30))] [] m0 := by
  intro n
  induction n with
  | zero =>
    intro m0 hf
    cases hf
  | succ n ih =>
    intro m0 hf
    refine g_aload_n X 0 dX3_takeWord_0 rfl rfl ?_
    refine g_getI X 30 2 6 dX3_takeWord_1 (rd_lt hRd (by decide)) rfl (by decide) rfl iw_X3 (by decide) rfl q_fl_X3_31 ?_
    refine g_aload_n X 0 dX3_takeWord_4 rfl rfl ?_
    refine g_getI X 30 2 1 dX3_takeWord_5 (rd_lt hRd (by decide)) rfl (by decide) rfl iw_X3 (by decide) rfl q_fl_X3_15 ?_
    refine g_icmp_ge X (tgt := 52) dX3_takeWord_8 (by decide) (fun c8 => ?_) (fun c8 => ?_)
    · have hf := it c8 hf
      exact w_X3_takeWord_52 hRd X hret m0 hf
    · have hf := ie c8 hf
      refine g_aload_n X 0 dX3_takeWord_11 rfl rfl ?_
      refine g_getr X (x := σ.1 31) 30 2 0 dX3_takeWord_12 (rd_lt hRd (by decide)) rfl (by decide) rfl iw_X3 (by decide) rfl q_fl_X3_9 hRd.2.1 ?_
      refine g_aload_n X 0 dX3_takeWord_15 rfl rfl ?_
      refine g_getI X 30 2 6 dX3_takeWord_16 (rd_lt hRd (by decide)) rfl (by decide) rfl iw_X3 (by decide) rfl q_fl_X3_31 ?_
      obtain ⟨h19, hf⟩ := grd hf
      refine g_iald X 31 (n := 160) dX3_takeWord_19 (rd_lt hRd (by decide)) rfl hRd.2.2.2.1 h19 ?_
      refine g_bipush X (v := 97) dX3_takeWord_20 (by decide) ?_
      refine g_icmp_lt X (tgt := 52) dX3_takeWord_22 (by decide) (fun c22 => ?_) (fun c22 => ?_)
      · have hf := it c22 hf
        exact w_X3_takeWord_52 hRd X hret m0 hf
      · have hf := ie c22 hf
        refine g_aload_n X 0 dX3_takeWord_25 rfl rfl ?_
        refine g_getr X (x := σ.1 31) 30 2 0 dX3_takeWord_26 (rd_lt hRd (by decide)) rfl (by decide) rfl iw_X3 (by decide) rfl q_fl_X3_9 hRd.2.1 ?_
        refine g_aload_n X 0 dX3_takeWord_29 rfl rfl ?_
        refine g_getI X 30 2 6 dX3_takeWord_30 (rd_lt hRd (by decide)) rfl (by decide) rfl iw_X3 (by decide) rfl q_fl_X3_31 ?_
        obtain ⟨h33, hf⟩ := grd hf
        refine g_iald X 31 (n := 160) dX3_takeWord_33 (rd_lt hRd (by decide)) rfl hRd.2.2.2.1 h33 ?_
        refine g_bipush X (v := 122) dX3_takeWord_34 (by decide) ?_
        refine g_icmp_gt X (tgt := 52) dX3_takeWord_36 (by decide) (fun c36 => ?_) (fun c36 => ?_)
        · have hf := it c36 hf
          exact w_X3_takeWord_52 hRd X hret m0 hf
        · have hf := ie c36 hf
          refine g_aload_n X 0 dX3_takeWord_39 rfl rfl ?_
          refine g_dup X dX3_takeWord_40 rfl ?_
          refine g_getI X 30 2 6 dX3_takeWord_41 (rd_lt hRd (by decide)) rfl (by decide) rfl iw_X3 (by decide) rfl q_fl_X3_31 ?_
          refine g_iconst X (v := 1) dX3_takeWord_44 (by decide) ?_
          refine g_iadd X dX3_takeWord_45 ?_
          refine g_putI X (tyf := tyX3) 30 2 6 dX3_takeWord_46 (rd_lt hRd (by decide)) rfl (by decide) rfl iw_X3 (by decide) rfl q_fl_X3_31 tyX3_ok nmX3 rfl rfl rfl ?_
          refine g_goto X (tgt := 0) dX3_takeWord_49 (by decide) ?_
          exact ih (pI m0 30 6 ((m0.1 30 6) + (1 : Int32))) hf
set_option maxRecDepth 100000 in
set_option maxHeartbeats 4000000 in
theorem c_X3_takeWord {l : Launch} {G : GG} {b : Nat} {σ : St} {m0 : Mem} {m9 : Mem} (hRd : RdOk σ) (hf : X3_takeWord m0 = some m9) : MtV l yX3_takeWord cX3_takeWord 6 (none) rmX3_takeWord G b σ m0 [.ref (σ.1 30)] (pEV σ m9) := by
  refine mtV_of (by decide) (Nat.le_of_ble_eq_true rfl) rfl (fun Γ hG X hnm hr => ?_)
  have hret : ∀ (pc : Nat) (lv : List (Nat × Value)), decode cX3_takeWord pc = .ok (.return_, 1) → Go Γ b σ 0 0 pc lv [] m9 := fun pc lv d => hr pc lv _ _ d ⟨rfl, rfl⟩
  show Go Γ b σ 0 0 0 [(0, .ref (σ.1 30))] [] m0
  exact w_X3_takeWord_0 hRd X hret 10000 m0 hf

def X3_takeNumber_84 : Nat → Int32 → Mem → Option (Mem)
  | 0, _, _ => none
  | n + 1, v1, m0 =>
    if (m0.1 30 6) ≤ v1 then
      some m0
    else
      if (m0.1 30 3) = (2 : Int32) then
        if inn v1 160 then
        X3_takeNumber_84 n (v1 + (1 : Int32)) (pI m0 30 5 ((((m0.1 30 5) * (10 : Int32)) + (m0.1 31 v1.toNatClampNeg)) - (48 : Int32)))
        else none
      else
        some m0
def X3_takeNumber_71 (s0 : Int32) (m0 : Mem) : Option (Mem) :=
  X3_takeNumber_84 10000 ((pI (pI m0 30 3 s0) 30 5 (0 : Int32)).1 30 4) (pI (pI m0 30 3 s0) 30 5 (0 : Int32))
def X3_takeNumber_52 (m0 : Mem) : Option (Mem) :=
  if ((m0.1 30 6) - (m0.1 30 4)) ≤ (4 : Int32) then
    X3_takeNumber_71 (2 : Int32) m0
  else
    X3_takeNumber_71 (1 : Int32) m0
def X3_takeNumber_0 : Nat → Mem → Option (Mem)
  | 0, _ => none
  | n + 1, m0 =>
    if (m0.1 30 1) ≤ (m0.1 30 6) then
      X3_takeNumber_52 m0
    else
      if inn (m0.1 30 6) 160 then
      if (m0.1 31 (m0.1 30 6).toNatClampNeg) < (48 : Int32) then
        X3_takeNumber_52 m0
      else
        if inn (m0.1 30 6) 160 then
        if (57 : Int32) < (m0.1 31 (m0.1 30 6).toNatClampNeg) then
          X3_takeNumber_52 m0
        else
          X3_takeNumber_0 n (pI m0 30 6 ((m0.1 30 6) + (1 : Int32)))
        else none
      else none
def X3_takeNumber (m0 : Mem) : Option (Mem) :=
  X3_takeNumber_0 10000 m0
abbrev rmX3_takeNumber : Room := { frames := 0, cells := 0, slots := 0, locals := 0 }
set_option maxRecDepth 100000 in
set_option maxHeartbeats 4000000 in
theorem w_X3_takeNumber_84 {Γ : Ga} {b : Nat} {σ : St} {m9 : Mem} (hRd : RdOk σ) (X : Cx Γ b cX3_takeNumber 2 RX3 (none) rmX3_takeNumber) (hret : ∀ (pc : Nat) (lv : List (Nat × Value)), decode cX3_takeNumber pc = .ok (.return_, 1) → Go Γ b σ 0 0 pc lv [] m9) : ∀ (n : Nat) (v1 : Int32) (m0 : Mem), X3_takeNumber_84 n v1 m0 = some m9 → Go Γ b σ 0 0 84 [(0, .ref (σ.1 30)), (1, .int v1)] [] m0 := by
  intro n
  induction n with
  | zero =>
    intro v1 m0 hf
    cases hf
  | succ n ih =>
    intro v1 m0 hf
    refine g_iload_n X 1 dX3_takeNumber_84 rfl rfl ?_
    refine g_aload_n X 0 dX3_takeNumber_85 rfl rfl ?_
    refine g_getI X 30 2 6 dX3_takeNumber_86 (rd_lt hRd (by decide)) rfl (by decide) rfl iw_X3 (by decide) rfl q_fl_X3_31 ?_
    refine g_icmp_ge X (tgt := 127) dX3_takeNumber_89 (by decide) (fun c89 => ?_) (fun c89 => ?_)
    · have hf := it c89 hf
      obtain rfl := lf1 hf
      exact hret 127 _ dX3_takeNumber_127
    · have hf := ie c89 hf
      refine g_aload_n X 0 dX3_takeNumber_92 rfl rfl ?_
      refine g_getI X 30 2 3 dX3_takeNumber_93 (rd_lt hRd (by decide)) rfl (by decide) rfl iw_X3 (by decide) rfl q_fl_X3_22 ?_
      refine g_iconst X (v := 2) dX3_takeNumber_96 (by decide) ?_
      refine g_icmp_ne X (tgt := 127) dX3_takeNumber_97 (by decide) (fun c97 => ?_) (fun c97 => ?_)
      · have hf := ie c97 hf
        obtain rfl := lf1 hf
        exact hret 127 _ dX3_takeNumber_127
      · have hf := it c97 hf
        refine g_aload_n X 0 dX3_takeNumber_100 rfl rfl ?_
        refine g_aload_n X 0 dX3_takeNumber_101 rfl rfl ?_
        refine g_getI X 30 2 5 dX3_takeNumber_102 (rd_lt hRd (by decide)) rfl (by decide) rfl iw_X3 (by decide) rfl q_fl_X3_28 ?_
        refine g_bipush X (v := 10) dX3_takeNumber_105 (by decide) ?_
        refine g_imul X dX3_takeNumber_107 ?_
        refine g_aload_n X 0 dX3_takeNumber_108 rfl rfl ?_
        refine g_getr X (x := σ.1 31) 30 2 0 dX3_takeNumber_109 (rd_lt hRd (by decide)) rfl (by decide) rfl iw_X3 (by decide) rfl q_fl_X3_9 hRd.2.1 ?_
        refine g_iload_n X 1 dX3_takeNumber_112 rfl rfl ?_
        obtain ⟨h113, hf⟩ := grd hf
        refine g_iald X 31 (n := 160) dX3_takeNumber_113 (rd_lt hRd (by decide)) rfl hRd.2.2.2.1 h113 ?_
        refine g_iadd X dX3_takeNumber_114 ?_
        refine g_bipush X (v := 48) dX3_takeNumber_115 (by decide) ?_
        refine g_isub X dX3_takeNumber_117 ?_
        refine g_putI X (tyf := tyX3) 30 2 5 dX3_takeNumber_118 (rd_lt hRd (by decide)) rfl (by decide) rfl iw_X3 (by decide) rfl q_fl_X3_28 tyX3_ok nmX3 rfl rfl rfl ?_
        refine g_iinc X 1 (v := v1 + (1 : Int32)) (lv' := [(1, .int (v1 + (1 : Int32))), (0, .ref (σ.1 30))]) dX3_takeNumber_121 rfl rfl (by decide) rfl ?_
        refine g_goto X (tgt := 84) dX3_takeNumber_124 (by decide) ?_
        refine g_pick [1, 0] (lv' := [(0, .ref (σ.1 30)), (1, .int (v1 + (1 : Int32)))]) rfl ?_
        exact ih (v1 + (1 : Int32)) (pI m0 30 5 ((((m0.1 30 5) * (10 : Int32)) + (m0.1 31 v1.toNatClampNeg)) - (48 : Int32))) hf
set_option maxRecDepth 100000 in
set_option maxHeartbeats 4000000 in
theorem w_X3_takeNumber_71 {Γ : Ga} {b : Nat} {σ : St} {m9 : Mem} (hRd : RdOk σ) (X : Cx Γ b cX3_takeNumber 2 RX3 (none) rmX3_takeNumber) (hret : ∀ (pc : Nat) (lv : List (Nat × Value)), decode cX3_takeNumber pc = .ok (.return_, 1) → Go Γ b σ 0 0 pc lv [] m9) (s0 : Int32) (m0 : Mem) (hf : X3_takeNumber_71 s0 m0 = some m9) : Go Γ b σ 0 0 71 [(0, .ref (σ.1 30))] [.int s0, .ref (σ.1 30)] m0 := by
  refine g_putI X (tyf := tyX3) 30 2 3 dX3_takeNumber_71 (rd_lt hRd (by decide)) rfl (by decide) rfl iw_X3 (by decide) rfl q_fl_X3_22 tyX3_ok nmX3 rfl rfl rfl ?_
  refine g_aload_n X 0 dX3_takeNumber_74 rfl rfl ?_
  refine g_iconst X (v := 0) dX3_takeNumber_75 (by decide) ?_
  refine g_putI X (tyf := tyX3) 30 2 5 dX3_takeNumber_76 (rd_lt hRd (by decide)) rfl (by decide) rfl iw_X3 (by decide) rfl q_fl_X3_28 tyX3_ok nmX3 rfl rfl rfl ?_
  refine g_aload_n X 0 dX3_takeNumber_79 rfl rfl ?_
  refine g_getI X 30 2 4 dX3_takeNumber_80 (rd_lt hRd (by decide)) rfl (by decide) rfl iw_X3 (by decide) rfl q_fl_X3_25 ?_
  refine g_istore_n X (lv' := [(1, .int ((pI (pI m0 30 3 s0) 30 5 (0 : Int32)).1 30 4)), (0, .ref (σ.1 30))]) dX3_takeNumber_83 rfl (by decide) rfl ?_
  refine g_pick [1, 0] (lv' := [(0, .ref (σ.1 30)), (1, .int ((pI (pI m0 30 3 s0) 30 5 (0 : Int32)).1 30 4))]) rfl ?_
  exact w_X3_takeNumber_84 hRd X hret 10000 ((pI (pI m0 30 3 s0) 30 5 (0 : Int32)).1 30 4) (pI (pI m0 30 3 s0) 30 5 (0 : Int32)) hf
set_option maxRecDepth 100000 in
set_option maxHeartbeats 4000000 in
theorem w_X3_takeNumber_52 {Γ : Ga} {b : Nat} {σ : St} {m9 : Mem} (hRd : RdOk σ) (X : Cx Γ b cX3_takeNumber 2 RX3 (none) rmX3_takeNumber) (hret : ∀ (pc : Nat) (lv : List (Nat × Value)), decode cX3_takeNumber pc = .ok (.return_, 1) → Go Γ b σ 0 0 pc lv [] m9) (m0 : Mem) (hf : X3_takeNumber_52 m0 = some m9) : Go Γ b σ 0 0 52 [(0, .ref (σ.1 30))] [] m0 := by
  refine g_aload_n X 0 dX3_takeNumber_52 rfl rfl ?_
  refine g_aload_n X 0 dX3_takeNumber_53 rfl rfl ?_
  refine g_getI X 30 2 6 dX3_takeNumber_54 (rd_lt hRd (by decide)) rfl (by decide) rfl iw_X3 (by decide) rfl q_fl_X3_31 ?_
  refine g_aload_n X 0 dX3_takeNumber_57 rfl rfl ?_
  refine g_getI X 30 2 4 dX3_takeNumber_58 (rd_lt hRd (by decide)) rfl (by decide) rfl iw_X3 (by decide) rfl q_fl_X3_25 ?_
  refine g_isub X dX3_takeNumber_61 ?_
  refine g_iconst X (v := 4) dX3_takeNumber_62 (by decide) ?_
  refine g_icmp_le X (tgt := 70) dX3_takeNumber_63 (by decide) (fun c63 => ?_) (fun c63 => ?_)
  · have hf := it c63 hf
    refine g_iconst X (v := 2) dX3_takeNumber_70 (by decide) ?_
    exact w_X3_takeNumber_71 hRd X hret (2 : Int32) m0 hf
  · have hf := ie c63 hf
    refine g_iconst X (v := 1) dX3_takeNumber_66 (by decide) ?_
    refine g_goto X (tgt := 71) dX3_takeNumber_67 (by decide) ?_
    exact w_X3_takeNumber_71 hRd X hret (1 : Int32) m0 hf
set_option maxRecDepth 100000 in
set_option maxHeartbeats 4000000 in
theorem w_X3_takeNumber_0 {Γ : Ga} {b : Nat} {σ : St} {m9 : Mem} (hRd : RdOk σ) (X : Cx Γ b cX3_takeNumber 2 RX3 (none) rmX3_takeNumber) (hret : ∀ (pc : Nat) (lv : List (Nat × Value)), decode cX3_takeNumber pc = .ok (.return_, 1) → Go Γ b σ 0 0 pc lv [] m9) : ∀ (n : Nat) (m0 : Mem), X3_takeNumber_0 n m0 = some m9 → Go Γ b σ 0 0 0 [(0, .ref (σ.1 30))] [] m0 := by
  intro n
  induction n with
  | zero =>
    intro m0 hf
    cases hf
  | succ n ih =>
    intro m0 hf
    refine g_aload_n X 0 dX3_takeNumber_0 rfl rfl ?_
    refine g_getI X 30 2 6 dX3_takeNumber_1 (rd_lt hRd (by decide)) rfl (by decide) rfl iw_X3 (by decide) rfl q_fl_X3_31 ?_
    refine g_aload_n X 0 dX3_takeNumber_4 rfl rfl ?_
    refine g_getI X 30 2 1 dX3_takeNumber_5 (rd_lt hRd (by decide)) rfl (by decide) rfl iw_X3 (by decide) rfl q_fl_X3_15 ?_
    refine g_icmp_ge X (tgt := 52) dX3_takeNumber_8 (by decide) (fun c8 => ?_) (fun c8 => ?_)
    · have hf := it c8 hf
      exact w_X3_takeNumber_52 hRd X hret m0 hf
    · have hf := ie c8 hf
      refine g_aload_n X 0 dX3_takeNumber_11 rfl rfl ?_
      refine g_getr X (x := σ.1 31) 30 2 0 dX3_takeNumber_12 (rd_lt hRd (by decide)) rfl (by decide) rfl iw_X3 (by decide) rfl q_fl_X3_9 hRd.2.1 ?_
      refine g_aload_n X 0 dX3_takeNumber_15 rfl rfl ?_
      refine g_getI X 30 2 6 dX3_takeNumber_16 (rd_lt hRd (by decide)) rfl (by decide) rfl iw_X3 (by decide) rfl q_fl_X3_31 ?_
      obtain ⟨h19, hf⟩ := grd hf
      refine g_iald X 31 (n := 160) dX3_takeNumber_19 (rd_lt hRd (by decide)) rfl hRd.2.2.2.1 h19 ?_
      refine g_bipush X (v := 48) dX3_takeNumber_20 (by decide) ?_
      refine g_icmp_lt X (tgt := 52) dX3_takeNumber_22 (by decide) (fun c22 => ?_) (fun c22 => ?_)
      · have hf := it c22 hf
        exact w_X3_takeNumber_52 hRd X hret m0 hf
      · have hf := ie c22 hf
        refine g_aload_n X 0 dX3_takeNumber_25 rfl rfl ?_
        refine g_getr X (x := σ.1 31) 30 2 0 dX3_takeNumber_26 (rd_lt hRd (by decide)) rfl (by decide) rfl iw_X3 (by decide) rfl q_fl_X3_9 hRd.2.1 ?_
        refine g_aload_n X 0 dX3_takeNumber_29 rfl rfl ?_
        refine g_getI X 30 2 6 dX3_takeNumber_30 (rd_lt hRd (by decide)) rfl (by decide) rfl iw_X3 (by decide) rfl q_fl_X3_31 ?_
        obtain ⟨h33, hf⟩ := grd hf
        refine g_iald X 31 (n := 160) dX3_takeNumber_33 (rd_lt hRd (by decide)) rfl hRd.2.2.2.1 h33 ?_
        refine g_bipush X (v := 57) dX3_takeNumber_34 (by decide) ?_
        refine g_icmp_gt X (tgt := 52) dX3_takeNumber_36 (by decide) (fun c36 => ?_) (fun c36 => ?_)
        · have hf := it c36 hf
          exact w_X3_takeNumber_52 hRd X hret m0 hf
        · have hf := ie c36 hf
          refine g_aload_n X 0 dX3_takeNumber_39 rfl rfl ?_
          refine g_dup X dX3_takeNumber_40 rfl ?_
          refine g_getI X 30 2 6 dX3_takeNumber_41 (rd_lt hRd (by decide)) rfl (by decide) rfl iw_X3 (by decide) rfl q_fl_X3_31 ?_
          refine g_iconst X (v := 1) dX3_takeNumber_44 (by decide) ?_
          refine g_iadd X dX3_takeNumber_45 ?_
          refine g_putI X (tyf := tyX3) 30 2 6 dX3_takeNumber_46 (rd_lt hRd (by decide)) rfl (by decide) rfl iw_X3 (by decide) rfl q_fl_X3_31 tyX3_ok nmX3 rfl rfl rfl ?_
          refine g_goto X (tgt := 0) dX3_takeNumber_49 (by decide) ?_
          exact ih (pI m0 30 6 ((m0.1 30 6) + (1 : Int32))) hf
set_option maxRecDepth 100000 in
set_option maxHeartbeats 4000000 in
theorem c_X3_takeNumber {l : Launch} {G : GG} {b : Nat} {σ : St} {m0 : Mem} {m9 : Mem} (hRd : RdOk σ) (hf : X3_takeNumber m0 = some m9) : MtV l yX3_takeNumber cX3_takeNumber 2 (none) rmX3_takeNumber G b σ m0 [.ref (σ.1 30)] (pEV σ m9) := by
  refine mtV_of (by decide) (Nat.le_of_ble_eq_true rfl) rfl (fun Γ hG X hnm hr => ?_)
  have hret : ∀ (pc : Nat) (lv : List (Nat × Value)), decode cX3_takeNumber pc = .ok (.return_, 1) → Go Γ b σ 0 0 pc lv [] m9 := fun pc lv d => hr pc lv _ _ d ⟨rfl, rfl⟩
  show Go Γ b σ 0 0 0 [(0, .ref (σ.1 30))] [] m0
  exact w_X3_takeNumber_0 hRd X hret 10000 m0 hf

def J1_canEncode_9a6ad (p0 : Int32) (m0 : Mem) : Option (Int32 × Mem) :=
  if p0 < 0 then
    some ((0 : Int32), m0)
  else
    if (255 : Int32) < p0 then
      some ((0 : Int32), m0)
    else
      some ((1 : Int32), m0)
abbrev rmJ1_canEncode_9a6ad : Room := { frames := 0, cells := 0, slots := 0, locals := 0 }

set_option maxRecDepth 100000 in
set_option maxHeartbeats 4000000 in
theorem c_J1_canEncode_9a6ad {l : Launch} {G : GG} {b : Nat} {σ : St} {p0 : Int32} {m0 : Mem} {r9 : Int32} {m9 : Mem} (hf : J1_canEncode_9a6ad p0 m0 = some (r9, m9)) : MtI l yJ1_canEncode_9a6ad cJ1_canEncode_9a6ad 1 (some .boolean) rmJ1_canEncode_9a6ad G b σ m0 [.int p0] (pEI r9 σ m9) := by
  refine mtI_of (by decide) (Nat.le_of_ble_eq_true rfl) .boolean rfl (fun Γ hG X hnm hr => ?_)
  have hret : ∀ (pc : Nat) (lv : List (Nat × Value)), decode cJ1_canEncode_9a6ad pc = .ok (.ireturn, 1) → narrow .boolean (.int r9) = .int r9 → Go Γ b σ 0 0 pc lv [.int r9] m9 := fun pc lv d hn => hr pc lv _ _ _ d ⟨rfl, rfl, rfl⟩ hn
  show Go Γ b σ 0 0 0 [(0, .int p0)] [] m0
  refine g_iload_n X 0 dJ1_canEncode_9a6ad_0 rfl rfl ?_
  refine g_if_lt X (tgt := 15) dJ1_canEncode_9a6ad_1 (by decide) (fun c1 => ?_) (fun c1 => ?_)
  · have hf := it c1 hf
    refine g_iconst X (v := 0) dJ1_canEncode_9a6ad_15 (by decide) ?_
    obtain ⟨rfl, rfl⟩ := lf2 hf
    exact hret 16 _ dJ1_canEncode_9a6ad_16 rfl
  · have hf := ie c1 hf
    refine g_iload_n X 0 dJ1_canEncode_9a6ad_4 rfl rfl ?_
    refine g_sipush X (v := 255) dJ1_canEncode_9a6ad_5 (by decide) ?_
    refine g_icmp_gt X (tgt := 15) dJ1_canEncode_9a6ad_8 (by decide) (fun c8 => ?_) (fun c8 => ?_)
    · have hf := it c8 hf
      refine g_iconst X (v := 0) dJ1_canEncode_9a6ad_15 (by decide) ?_
      obtain ⟨rfl, rfl⟩ := lf2 hf
      exact hret 16 _ dJ1_canEncode_9a6ad_16 rfl
    · have hf := ie c8 hf
      refine g_iconst X (v := 1) dJ1_canEncode_9a6ad_11 (by decide) ?_
      refine g_goto X (tgt := 16) dJ1_canEncode_9a6ad_12 (by decide) ?_
      obtain ⟨rfl, rfl⟩ := lf2 hf
      exact hret 16 _ dJ1_canEncode_9a6ad_16 rfl

def J1_indexOfChar_4cfef_7 (i : Nat) : Nat → Int32 → Int32 → Int32 → Mem → Option (Int32 × Mem)
  | 0, _, _, _, _ => none
  | n + 1, v3, v4, v5, m0 =>
    if v3 ≤ v5 then
      some ((-1 : Int32), m0)
    else
      if inn v5 (xL.getD i 0) then
      if ((xB.getD i []).getD v5.toNatClampNeg 0) = v4 then
        some (v5, m0)
      else
        J1_indexOfChar_4cfef_7 i n v3 v4 (v5 + (1 : Int32)) m0
      else none
def J1_indexOfChar_4cfef (i : Nat) (p1 : Int32) (p2 : Int32) (p3 : Int32) (m0 : Mem) : Option (Int32 × Mem) :=
  J1_indexOfChar_4cfef_7 i 10000 p3 p1.toInt8.toInt32 p2 m0
abbrev rmJ1_indexOfChar_4cfef : Room := { frames := 0, cells := 0, slots := 0, locals := 0 }
set_option maxRecDepth 100000 in
set_option maxHeartbeats 4000000 in
theorem w_J1_indexOfChar_4cfef_7 {Γ : Ga} {b : Nat} {σ : St} {i : Nat} {r9 : Int32} {m9 : Mem} (hi9 : i < 3) (X : Cx Γ b cJ1_indexOfChar_4cfef 6 RJ1 (some .int) rmJ1_indexOfChar_4cfef) (hret : ∀ (pc : Nat) (lv : List (Nat × Value)), decode cJ1_indexOfChar_4cfef pc = .ok (.ireturn, 1) → narrow .int (.int r9) = .int r9 → Go Γ b σ 0 0 pc lv [.int r9] m9) : ∀ (n : Nat) (v3 : Int32) (v4 : Int32) (v5 : Int32) (m0 : Mem), J1_indexOfChar_4cfef_7 i n v3 v4 v5 m0 = some (r9, m9) → Go Γ b σ 0 0 7 [(0, .ref ((gG Γ).2.2 (5 + i))), (3, .int v3), (4, .int v4), (5, .int v5)] [] m0 := by
  intro n
  induction n with
  | zero =>
    intro v3 v4 v5 m0 hf
    cases hf
  | succ n ih =>
    intro v3 v4 v5 m0 hf
    refine g_iload X 3 dJ1_indexOfChar_4cfef_7 rfl ?_
    refine g_iload_n X 1 dJ1_indexOfChar_4cfef_9 rfl rfl ?_
    refine g_icmp_ge X (tgt := 31) dJ1_indexOfChar_4cfef_10 (by decide) (fun c10 => ?_) (fun c10 => ?_)
    · have hf := it c10 hf
      refine g_iconst X (v := -1) dJ1_indexOfChar_4cfef_31 (by decide) ?_
      obtain ⟨rfl, rfl⟩ := lf2 hf
      exact hret 32 _ dJ1_indexOfChar_4cfef_32 rfl
    · have hf := ie c10 hf
      refine g_aload_n X 0 dJ1_indexOfChar_4cfef_13 rfl rfl ?_
      refine g_iload X 3 dJ1_indexOfChar_4cfef_14 rfl ?_
      obtain ⟨h16, hf⟩ := grd hf
      refine g_sbald X dJ1_indexOfChar_4cfef_16 hi9 h16 ?_
      refine g_iload X 2 dJ1_indexOfChar_4cfef_17 rfl ?_
      refine g_icmp_ne X (tgt := 25) dJ1_indexOfChar_4cfef_19 (by decide) (fun c19 => ?_) (fun c19 => ?_)
      · have hf := ie c19 hf
        refine g_iinc X 3 (v := v5 + (1 : Int32)) (lv' := [(5, .int (v5 + (1 : Int32))), (0, .ref ((gG Γ).2.2 (5 + i))), (3, .int v3), (4, .int v4)]) dJ1_indexOfChar_4cfef_25 rfl rfl (by decide) rfl ?_
        refine g_goto X (tgt := 7) dJ1_indexOfChar_4cfef_28 (by decide) ?_
        refine g_pick [1, 2, 3, 0] (lv' := [(0, .ref ((gG Γ).2.2 (5 + i))), (3, .int v3), (4, .int v4), (5, .int (v5 + (1 : Int32)))]) rfl ?_
        exact ih v3 v4 (v5 + (1 : Int32)) m0 hf
      · have hf := it c19 hf
        refine g_iload X 3 dJ1_indexOfChar_4cfef_22 rfl ?_
        obtain ⟨rfl, rfl⟩ := lf2 hf
        exact hret 24 _ dJ1_indexOfChar_4cfef_24 rfl
set_option maxRecDepth 100000 in
set_option maxHeartbeats 4000000 in
theorem c_J1_indexOfChar_4cfef {l : Launch} {G : GG} {b : Nat} {σ : St} {i : Nat} {p1 : Int32} {p2 : Int32} {p3 : Int32} {m0 : Mem} {r9 : Int32} {m9 : Mem} (hi9 : i < 3) (hf : J1_indexOfChar_4cfef i p1 p2 p3 m0 = some (r9, m9)) : MtI l yJ1_indexOfChar_4cfef cJ1_indexOfChar_4cfef 6 (some .int) rmJ1_indexOfChar_4cfef G b σ m0 [.ref (G.2.2 (5 + i)), .int p1, .int p2, .int p3] (pEI r9 σ m9) := by
  refine mtI_of (by decide) (Nat.le_of_ble_eq_true rfl) .int rfl (fun Γ hG X hnm hr => ?_)
  subst hG
  have hret : ∀ (pc : Nat) (lv : List (Nat × Value)), decode cJ1_indexOfChar_4cfef pc = .ok (.ireturn, 1) → narrow .int (.int r9) = .int r9 → Go Γ b σ 0 0 pc lv [.int r9] m9 := fun pc lv d hn => hr pc lv _ _ _ d ⟨rfl, rfl, rfl⟩ hn
  show Go Γ b σ 0 0 0 [(0, .ref ((gG Γ).2.2 (5 + i))), (1, .int p1), (2, .int p2), (3, .int p3)] [] m0
  refine g_iload_n X 1 dJ1_indexOfChar_4cfef_0 rfl rfl ?_
  refine g_i2b X dJ1_indexOfChar_4cfef_1 ?_
  refine g_istore X (lv' := [(4, .int p1.toInt8.toInt32), (0, .ref ((gG Γ).2.2 (5 + i))), (1, .int p1), (2, .int p2), (3, .int p3)]) dJ1_indexOfChar_4cfef_2 (by decide) rfl ?_
  refine g_iload_n X 3 dJ1_indexOfChar_4cfef_4 rfl rfl ?_
  refine g_istore X (lv' := [(5, .int p2), (4, .int p1.toInt8.toInt32), (0, .ref ((gG Γ).2.2 (5 + i))), (1, .int p1), (2, .int p2), (3, .int p3)]) dJ1_indexOfChar_4cfef_5 (by decide) rfl ?_
  refine g_pick [2, 5, 1, 0] (lv' := [(0, .ref ((gG Γ).2.2 (5 + i))), (3, .int p3), (4, .int p1.toInt8.toInt32), (5, .int p2)]) rfl ?_
  exact w_J1_indexOfChar_4cfef_7 hi9 X hret 10000 p3 p1.toInt8.toInt32 p2 m0 hf

theorem kS_J1_88 : wcS RJ1 88 yJ1_canEncode_9a6ad cJ1_canEncode_9a6ad 1 (some .boolean) 1 := ⟨q_ml_J1_88, q_st_yJ1_canEncode_9a6ad, q_in_J1, q_co_yJ1_canEncode_9a6ad, by decide +kernel⟩

theorem kS_J1_95 : wcS RJ1 95 yJ1_indexOfChar_4cfef cJ1_indexOfChar_4cfef 6 (some .int) 4 := ⟨q_ml_J1_95, q_st_yJ1_indexOfChar_4cfef, q_in_J1, q_co_yJ1_indexOfChar_4cfef, by decide +kernel⟩

def J1_indexOf_4cfef (i : Nat) (p1 : Int32) (p2 : Int32) (p3 : Int32) (m0 : Mem) : Option (Int32 × Mem) :=
  bi (J1_canEncode_9a6ad p1 m0) fun r1 m1 =>
  if r1 = 0 then
    some ((-1 : Int32), m1)
  else
    if (if p2 < (0 : Int32) then (0 : Int32) else p2) < (if (Int32.ofNat (xL.getD i 0)) < p3 then (Int32.ofNat (xL.getD i 0)) else p3) then
      bi (J1_indexOfChar_4cfef i p1 (if p2 < (0 : Int32) then (0 : Int32) else p2) (if (Int32.ofNat (xL.getD i 0)) < p3 then (Int32.ofNat (xL.getD i 0)) else p3) m1) fun r33 m33 =>
      some (r33, m33)
    else
      some ((-1 : Int32), m1)
abbrev rmJ1_indexOf_4cfef : Room := { frames := 1, cells := 0, slots := 0, locals := 60 }

set_option maxRecDepth 100000 in
set_option maxHeartbeats 4000000 in
theorem c_J1_indexOf_4cfef {l : Launch} {G : GG} {b : Nat} {σ : St} {i : Nat} {p1 : Int32} {p2 : Int32} {p3 : Int32} {m0 : Mem} {r9 : Int32} {m9 : Mem} (hi9 : i < 3) (hf : J1_indexOf_4cfef i p1 p2 p3 m0 = some (r9, m9)) : MtI l yJ1_indexOf_4cfef cJ1_indexOf_4cfef 4 (some .int) rmJ1_indexOf_4cfef G b σ m0 [.ref (G.2.2 (5 + i)), .int p1, .int p2, .int p3] (pEI r9 σ m9) := by
  refine mtI_of (by decide) (Nat.le_of_ble_eq_true rfl) .int rfl (fun Γ hG X hnm hr => ?_)
  subst hG
  have hret : ∀ (pc : Nat) (lv : List (Nat × Value)), decode cJ1_indexOf_4cfef pc = .ok (.ireturn, 1) → narrow .int (.int r9) = .int r9 → Go Γ b σ 0 0 pc lv [.int r9] m9 := fun pc lv d hn => hr pc lv _ _ _ d ⟨rfl, rfl, rfl⟩ hn
  show Go Γ b σ 0 0 0 [(0, .ref ((gG Γ).2.2 (5 + i))), (1, .int p1), (2, .int p2), (3, .int p3)] [] m0
  refine g_iload_n X 1 dJ1_indexOf_4cfef_0 rfl rfl ?_
  obtain ⟨r1, m1, h1, hf⟩ := bi_i hf
  refine g_eSI X [.int p1] kS_J1_88 (c_J1_canEncode_9a6ad h1) dJ1_indexOf_4cfef_1 rfl rfl ⟨(Nat.le_of_ble_eq_true rfl), (Nat.le_of_ble_eq_true rfl)⟩ ⟨rfl, rfl⟩ ⟨(Nat.zero_le _), (Nat.zero_le _)⟩ (Nat.le_of_ble_eq_true rfl) ?_
  refine g_if_ne X (tgt := 9) dJ1_indexOf_4cfef_4 (by decide) (fun c4 => ?_) (fun c4 => ?_)
  · have hf := ie c4 hf
    refine g_iload_n X 2 dJ1_indexOf_4cfef_9 rfl rfl ?_
    refine g_iconst X (v := 0) dJ1_indexOf_4cfef_10 (by decide) ?_
    refine g_mmax X dJ1_indexOf_4cfef_11 q_ml_J1_92 q_st_yJ9_max_7cf53 q_in_J9 q_co_yJ9_max_7cf53 (Nat.le_of_ble_eq_true rfl) (Nat.le_of_ble_eq_true rfl) ⟨Nat.zero_le _, Nat.zero_le _⟩ ?_
    refine g_istore_n X (lv' := [(2, .int (if p2 < (0 : Int32) then (0 : Int32) else p2)), (0, .ref ((gG Γ).2.2 (5 + i))), (1, .int p1), (3, .int p3)]) dJ1_indexOf_4cfef_14 rfl (by decide) rfl ?_
    refine g_iload_n X 3 dJ1_indexOf_4cfef_15 rfl rfl ?_
    refine g_aload_n X 1 dJ1_indexOf_4cfef_16 rfl rfl ?_
    refine g_slen X dJ1_indexOf_4cfef_17 hi9 ?_
    refine g_mmin X dJ1_indexOf_4cfef_18 q_ml_J1_38 q_st_yJ9_min_7cf53 q_in_J9 q_co_yJ9_min_7cf53 (Nat.le_of_ble_eq_true rfl) (Nat.le_of_ble_eq_true rfl) ⟨Nat.zero_le _, Nat.zero_le _⟩ ?_
    refine g_istore_n X (lv' := [(3, .int (if (Int32.ofNat (xL.getD i 0)) < p3 then (Int32.ofNat (xL.getD i 0)) else p3)), (2, .int (if p2 < (0 : Int32) then (0 : Int32) else p2)), (0, .ref ((gG Γ).2.2 (5 + i))), (1, .int p1)]) dJ1_indexOf_4cfef_21 rfl (by decide) rfl ?_
    refine g_iload_n X 1 dJ1_indexOf_4cfef_22 rfl rfl ?_
    refine g_iload_n X 0 dJ1_indexOf_4cfef_23 rfl rfl ?_
    refine g_icmp_lt X (tgt := 29) dJ1_indexOf_4cfef_24 (by decide) (fun c24 => ?_) (fun c24 => ?_)
    · have hf := it c24 hf
      refine g_aload_n X 2 dJ1_indexOf_4cfef_29 rfl rfl ?_
      refine g_iload_n X 3 dJ1_indexOf_4cfef_30 rfl rfl ?_
      refine g_iload_n X 1 dJ1_indexOf_4cfef_31 rfl rfl ?_
      refine g_iload_n X 0 dJ1_indexOf_4cfef_32 rfl rfl ?_
      obtain ⟨r33, m33, h33, hf⟩ := bi_i hf
      refine g_eSI X [.ref ((gG Γ).2.2 (5 + i)), .int p1, .int (if p2 < (0 : Int32) then (0 : Int32) else p2), .int (if (Int32.ofNat (xL.getD i 0)) < p3 then (Int32.ofNat (xL.getD i 0)) else p3)] kS_J1_95 (c_J1_indexOfChar_4cfef hi9 h33) dJ1_indexOf_4cfef_33 rfl rfl ⟨(Nat.le_of_ble_eq_true rfl), (Nat.le_of_ble_eq_true rfl)⟩ ⟨rfl, rfl⟩ ⟨(Nat.zero_le _), (Nat.zero_le _)⟩ (Nat.le_of_ble_eq_true rfl) ?_
      obtain ⟨rfl, rfl⟩ := lf2 hf
      exact hret 36 _ dJ1_indexOf_4cfef_36 rfl
    · have hf := ie c24 hf
      refine g_iconst X (v := -1) dJ1_indexOf_4cfef_27 (by decide) ?_
      obtain ⟨rfl, rfl⟩ := lf2 hf
      exact hret 28 _ dJ1_indexOf_4cfef_28 rfl
  · have hf := it c4 hf
    refine g_iconst X (v := -1) dJ1_indexOf_4cfef_7 (by decide) ?_
    obtain ⟨rfl, rfl⟩ := lf2 hf
    exact hret 8 _ dJ1_indexOf_4cfef_8 rfl

theorem kV_J0_505 : wcV RJ0 505 RJ0 yJ0_length_8abf5 cJ0_length_8abf5 1 (some .int) 0 := ⟨q_ml_J0_505, q_im_yJ0_length_8abf5, q_se_yJ0_length_8abf5, q_in_J0, q_co_yJ0_length_8abf5, by decide +kernel⟩

theorem kS_J0_637 : wcS RJ0 637 yJ1_indexOf_4cfef cJ1_indexOf_4cfef 4 (some .int) 4 := ⟨q_ml_J0_637, q_st_yJ1_indexOf_4cfef, q_in_J1, q_co_yJ1_indexOf_4cfef, by decide +kernel⟩

def J0_indexOf_7cf53 (i : Nat) (p0 : Int32) (p1 : Int32) (m0 : Mem) : Option (Int32 × Mem) :=
  bi (J0_isLatin1_aae02 i m0) fun r1 m1 =>
  if r1 = 0 then
    bi (J0_length_8abf5 i m1) fun r30 m30 =>
    none
  else
    bi (J0_length_8abf5 i m1) fun r14 m14 =>
    bi (J1_indexOf_4cfef i p0 p1 r14 m14) fun r17 m17 =>
    some (r17, m17)
abbrev rmJ0_indexOf_7cf53 : Room := { frames := 2, cells := 0, slots := 0, locals := 83 }

set_option maxRecDepth 100000 in
set_option maxHeartbeats 4000000 in
theorem c_J0_indexOf_7cf53 {l : Launch} {G : GG} {b : Nat} {σ : St} {i : Nat} {p0 : Int32} {p1 : Int32} {m0 : Mem} {r9 : Int32} {m9 : Mem} (hi9 : i < 3) (hf : J0_indexOf_7cf53 i p0 p1 m0 = some (r9, m9)) : MtI l yJ0_indexOf_7cf53 cJ0_indexOf_7cf53 3 (some .int) rmJ0_indexOf_7cf53 G b σ m0 [.ref (G.2.2 (2 + i)), .int p0, .int p1] (pEI r9 σ m9) := by
  refine mtI_of (by decide) (Nat.le_of_ble_eq_true rfl) .int rfl (fun Γ hG X hnm hr => ?_)
  subst hG
  have hret : ∀ (pc : Nat) (lv : List (Nat × Value)), decode cJ0_indexOf_7cf53 pc = .ok (.ireturn, 1) → narrow .int (.int r9) = .int r9 → Go Γ b σ 0 0 pc lv [.int r9] m9 := fun pc lv d hn => hr pc lv _ _ _ d ⟨rfl, rfl, rfl⟩ hn
  show Go Γ b σ 0 0 0 [(0, .ref ((gG Γ).2.2 (2 + i))), (1, .int p0), (2, .int p1)] [] m0
  refine g_aload_n X 0 dJ0_indexOf_7cf53_0 rfl rfl ?_
  obtain ⟨r1, m1, h1, hf⟩ := bi_i hf
  refine g_xVI X i [] hi9 kV_J0_492 (c_J0_isLatin1_aae02 hi9 h1) dJ0_indexOf_7cf53_1 rfl rfl ⟨(Nat.le_of_ble_eq_true rfl), (Nat.le_of_ble_eq_true rfl)⟩ ⟨rfl, rfl⟩ ⟨(Nat.zero_le _), (Nat.zero_le _)⟩ (Nat.le_of_ble_eq_true rfl) ?_
  refine g_if_eq X (tgt := 23) dJ0_indexOf_7cf53_4 (by decide) (fun c4 => ?_) (fun c4 => ?_)
  · have hf := it c4 hf
    refine g_aload_n X 0 dJ0_indexOf_7cf53_23 rfl rfl ?_
    refine g_sval X dJ0_indexOf_7cf53_24 hi9 q_fl_J0_9 ?_
    refine g_iload_n X 1 dJ0_indexOf_7cf53_27 rfl rfl ?_
    refine g_iload_n X 2 dJ0_indexOf_7cf53_28 rfl rfl ?_
    refine g_aload_n X 0 dJ0_indexOf_7cf53_29 rfl rfl ?_
    obtain ⟨r30, m30, h30, hf⟩ := bi_i hf
    refine g_xVI X i [] hi9 kV_J0_505 (c_J0_length_8abf5 hi9 h30) dJ0_indexOf_7cf53_30 rfl rfl ⟨(Nat.le_of_ble_eq_true rfl), (Nat.le_of_ble_eq_true rfl)⟩ ⟨rfl, rfl⟩ ⟨(Nat.zero_le _), (Nat.zero_le _)⟩ (Nat.le_of_ble_eq_true rfl) ?_
    cases hf
  · have hf := ie c4 hf
    refine g_aload_n X 0 dJ0_indexOf_7cf53_7 rfl rfl ?_
    refine g_sval X dJ0_indexOf_7cf53_8 hi9 q_fl_J0_9 ?_
    refine g_iload_n X 1 dJ0_indexOf_7cf53_11 rfl rfl ?_
    refine g_iload_n X 2 dJ0_indexOf_7cf53_12 rfl rfl ?_
    refine g_aload_n X 0 dJ0_indexOf_7cf53_13 rfl rfl ?_
    obtain ⟨r14, m14, h14, hf⟩ := bi_i hf
    refine g_xVI X i [] hi9 kV_J0_505 (c_J0_length_8abf5 hi9 h14) dJ0_indexOf_7cf53_14 rfl rfl ⟨(Nat.le_of_ble_eq_true rfl), (Nat.le_of_ble_eq_true rfl)⟩ ⟨rfl, rfl⟩ ⟨(Nat.zero_le _), (Nat.zero_le _)⟩ (Nat.le_of_ble_eq_true rfl) ?_
    obtain ⟨r17, m17, h17, hf⟩ := bi_i hf
    refine g_eSI X [.ref ((gG Γ).2.2 (5 + i)), .int p0, .int p1, .int r14] kS_J0_637 (c_J1_indexOf_4cfef hi9 h17) dJ0_indexOf_7cf53_17 rfl rfl ⟨(Nat.le_of_ble_eq_true rfl), (Nat.le_of_ble_eq_true rfl)⟩ ⟨rfl, rfl⟩ ⟨(Nat.zero_le _), (Nat.zero_le _)⟩ (Nat.le_of_ble_eq_true rfl) ?_
    refine g_goto X (tgt := 36) dJ0_indexOf_7cf53_20 (by decide) ?_
    obtain ⟨rfl, rfl⟩ := lf2 hf
    exact hret 36 _ dJ0_indexOf_7cf53_36 rfl

theorem kV_J0_633 : wcV RJ0 633 RJ0 yJ0_indexOf_7cf53 cJ0_indexOf_7cf53 3 (some .int) 2 := ⟨q_ml_J0_633, q_im_yJ0_indexOf_7cf53, q_se_yJ0_indexOf_7cf53, q_in_J0, q_co_yJ0_indexOf_7cf53, by decide +kernel⟩

def J0_indexOf_0f7a4 (i : Nat) (p0 : Int32) (m0 : Mem) : Option (Int32 × Mem) :=
  bi (J0_indexOf_7cf53 i p0 (0 : Int32) m0) fun r3 m3 =>
  some (r3, m3)
abbrev rmJ0_indexOf_0f7a4 : Room := { frames := 3, cells := 0, slots := 0, locals := 105 }

set_option maxRecDepth 100000 in
set_option maxHeartbeats 4000000 in
theorem c_J0_indexOf_0f7a4 {l : Launch} {G : GG} {b : Nat} {σ : St} {i : Nat} {p0 : Int32} {m0 : Mem} {r9 : Int32} {m9 : Mem} (hi9 : i < 3) (hf : J0_indexOf_0f7a4 i p0 m0 = some (r9, m9)) : MtI l yJ0_indexOf_0f7a4 cJ0_indexOf_0f7a4 2 (some .int) rmJ0_indexOf_0f7a4 G b σ m0 [.ref (G.2.2 (2 + i)), .int p0] (pEI r9 σ m9) := by
  refine mtI_of (by decide) (Nat.le_of_ble_eq_true rfl) .int rfl (fun Γ hG X hnm hr => ?_)
  subst hG
  have hret : ∀ (pc : Nat) (lv : List (Nat × Value)), decode cJ0_indexOf_0f7a4 pc = .ok (.ireturn, 1) → narrow .int (.int r9) = .int r9 → Go Γ b σ 0 0 pc lv [.int r9] m9 := fun pc lv d hn => hr pc lv _ _ _ d ⟨rfl, rfl, rfl⟩ hn
  show Go Γ b σ 0 0 0 [(0, .ref ((gG Γ).2.2 (2 + i))), (1, .int p0)] [] m0
  refine g_aload_n X 0 dJ0_indexOf_0f7a4_0 rfl rfl ?_
  refine g_iload_n X 1 dJ0_indexOf_0f7a4_1 rfl rfl ?_
  refine g_iconst X (v := 0) dJ0_indexOf_0f7a4_2 (by decide) ?_
  obtain ⟨r3, m3, h3, hf⟩ := bi_i hf
  refine g_xVI X i [.int p0, .int (0 : Int32)] hi9 kV_J0_633 (c_J0_indexOf_7cf53 hi9 h3) dJ0_indexOf_0f7a4_3 rfl rfl ⟨(Nat.le_of_ble_eq_true rfl), (Nat.le_of_ble_eq_true rfl)⟩ ⟨rfl, rfl⟩ ⟨(Nat.zero_le _), (Nat.zero_le _)⟩ (Nat.le_of_ble_eq_true rfl) ?_
  obtain ⟨rfl, rfl⟩ := lf2 hf
  exact hret 6 _ dJ0_indexOf_0f7a4_6 rfl

theorem kV_X3_101 : wcV RX3 101 RJ0 yJ0_indexOf_0f7a4 cJ0_indexOf_0f7a4 2 (some .int) 1 := ⟨q_ml_X3_101, q_im_yJ0_indexOf_0f7a4, q_se_yJ0_indexOf_0f7a4, q_in_J0, q_co_yJ0_indexOf_0f7a4, by decide +kernel⟩

theorem kV_X3_96 : wcV RX3 96 RX3 yX3_takeNumber cX3_takeNumber 2 (none) 0 := ⟨q_ml_X3_96, q_im_yX3_takeNumber, q_se_yX3_takeNumber, q_in_X3, q_co_yX3_takeNumber, by decide +kernel⟩

theorem kV_X3_93 : wcV RX3 93 RX3 yX3_takeWord cX3_takeWord 6 (none) 0 := ⟨q_ml_X3_93, q_im_yX3_takeWord, q_se_yX3_takeWord, q_in_X3, q_co_yX3_takeWord, by decide +kernel⟩

def X3_advance_144 (v1 : Int32) (m0 : Mem) : Option (Mem) :=
  bi (J0_indexOf_0f7a4 2 ((v1.toUInt32 % 65536).toInt32) m0) fun r149 m149 =>
  if r149 < 0 then
    some (pI m149 30 3 (1 : Int32))
  else
    some (pI m149 30 3 v1)
def X3_advance_125 (v1 : Int32) (m0 : Mem) : Option (Mem) :=
  if v1 < (48 : Int32) then
    X3_advance_144 v1 m0
  else
    if (57 : Int32) < v1 then
      X3_advance_144 v1 m0
    else
      bv (X3_takeNumber m0) fun m138 =>
      some m138
def X3_advance_61 (m0 : Mem) : Option (Mem) :=
  if ((pI m0 30 4 (m0.1 30 6)).1 30 6) < ((pI m0 30 4 (m0.1 30 6)).1 30 1) then
    if inn ((pI m0 30 4 (m0.1 30 6)).1 30 6) 160 then
    if ((pI m0 30 4 (m0.1 30 6)).1 31 ((pI m0 30 4 (m0.1 30 6)).1 30 6).toNatClampNeg) < (97 : Int32) then
      X3_advance_125 ((pI m0 30 4 (m0.1 30 6)).1 31 ((pI m0 30 4 (m0.1 30 6)).1 30 6).toNatClampNeg) (pI (pI m0 30 4 (m0.1 30 6)) 30 6 (((pI m0 30 4 (m0.1 30 6)).1 30 6) + (1 : Int32)))
    else
      if (122 : Int32) < ((pI m0 30 4 (m0.1 30 6)).1 31 ((pI m0 30 4 (m0.1 30 6)).1 30 6).toNatClampNeg) then
        X3_advance_125 ((pI m0 30 4 (m0.1 30 6)).1 31 ((pI m0 30 4 (m0.1 30 6)).1 30 6).toNatClampNeg) (pI (pI m0 30 4 (m0.1 30 6)) 30 6 (((pI m0 30 4 (m0.1 30 6)).1 30 6) + (1 : Int32)))
      else
        bv (X3_takeWord (pI (pI m0 30 4 (m0.1 30 6)) 30 6 (((pI m0 30 4 (m0.1 30 6)).1 30 6) + (1 : Int32)))) fun m119 =>
        some m119
    else none
  else
    some (pI (pI m0 30 4 (m0.1 30 6)) 30 3 (0 : Int32))
def X3_advance_48 (k9 : Mem → Option (Mem)) (m0 : Mem) : Option (Mem) :=
  k9 (pI m0 30 6 ((m0.1 30 6) + (1 : Int32)))
def X3_advance_9 : Nat → Mem → Option (Mem)
  | 0, _ => none
  | n + 1, m0 =>
    if (m0.1 30 1) ≤ (m0.1 30 6) then
      X3_advance_61 m0
    else
      if inn (m0.1 30 6) 160 then
      if (m0.1 31 (m0.1 30 6).toNatClampNeg) = (32 : Int32) then
        X3_advance_48 (X3_advance_9 n) m0
      else
        if inn (m0.1 30 6) 160 then
        if (m0.1 31 (m0.1 30 6).toNatClampNeg) = (10 : Int32) then
          X3_advance_48 (X3_advance_9 n) m0
        else
          X3_advance_61 m0
        else none
      else none
def X3_advance (m0 : Mem) : Option (Mem) :=
  if (m0.1 30 2) = (-1 : Int32) then
    X3_advance_9 10000 m0
  else
    some m0
abbrev rmX3_advance : Room := { frames := 5, cells := 0, slots := 0, locals := 148 }
set_option maxRecDepth 100000 in
set_option maxHeartbeats 4000000 in
theorem w_X3_advance_144 {Γ : Ga} {b : Nat} {σ : St} {m9 : Mem} (hRd : RdOk σ) (X : Cx Γ b cX3_advance 2 RX3 (none) rmX3_advance) (hret : ∀ (pc : Nat) (lv : List (Nat × Value)), decode cX3_advance pc = .ok (.return_, 1) → Go Γ b σ 0 0 pc lv [] m9) (v1 : Int32) (m0 : Mem) (hf : X3_advance_144 v1 m0 = some m9) : Go Γ b σ 0 0 144 [(0, .ref (σ.1 30)), (1, .int v1)] [] m0 := by
  refine g_aload_n X 0 dX3_advance_144 rfl rfl ?_
  refine g_ldcS2 X dX3_advance_145 ?_
  refine g_iload_n X 1 dX3_advance_147 rfl rfl ?_
  refine g_i2c X dX3_advance_148 ?_
  obtain ⟨r149, m149, h149, hf⟩ := bi_i hf
  refine g_xVI X 2 [.int ((v1.toUInt32 % 65536).toInt32)] (by decide) kV_X3_101 (c_J0_indexOf_0f7a4 (by decide) h149) dX3_advance_149 rfl rfl ⟨(Nat.le_of_ble_eq_true rfl), (Nat.le_of_ble_eq_true rfl)⟩ ⟨rfl, rfl⟩ ⟨(Nat.zero_le _), (Nat.zero_le _)⟩ (Nat.le_of_ble_eq_true rfl) ?_
  refine g_if_lt X (tgt := 159) dX3_advance_152 (by decide) (fun c152 => ?_) (fun c152 => ?_)
  · have hf := it c152 hf
    refine g_iconst X (v := 1) dX3_advance_159 (by decide) ?_
    refine g_putI X (tyf := tyX3) 30 2 3 dX3_advance_160 (rd_lt hRd (by decide)) rfl (by decide) rfl iw_X3 (by decide) rfl q_fl_X3_22 tyX3_ok nmX3 rfl rfl rfl ?_
    obtain rfl := lf1 hf
    exact hret 163 _ dX3_advance_163
  · have hf := ie c152 hf
    refine g_iload_n X 1 dX3_advance_155 rfl rfl ?_
    refine g_goto X (tgt := 160) dX3_advance_156 (by decide) ?_
    refine g_putI X (tyf := tyX3) 30 2 3 dX3_advance_160 (rd_lt hRd (by decide)) rfl (by decide) rfl iw_X3 (by decide) rfl q_fl_X3_22 tyX3_ok nmX3 rfl rfl rfl ?_
    obtain rfl := lf1 hf
    exact hret 163 _ dX3_advance_163
set_option maxRecDepth 100000 in
set_option maxHeartbeats 4000000 in
theorem w_X3_advance_125 {Γ : Ga} {b : Nat} {σ : St} {m9 : Mem} (hRd : RdOk σ) (X : Cx Γ b cX3_advance 2 RX3 (none) rmX3_advance) (hret : ∀ (pc : Nat) (lv : List (Nat × Value)), decode cX3_advance pc = .ok (.return_, 1) → Go Γ b σ 0 0 pc lv [] m9) (v1 : Int32) (m0 : Mem) (hf : X3_advance_125 v1 m0 = some m9) : Go Γ b σ 0 0 125 [(0, .ref (σ.1 30)), (1, .int v1)] [] m0 := by
  refine g_iload_n X 1 dX3_advance_125 rfl rfl ?_
  refine g_bipush X (v := 48) dX3_advance_126 (by decide) ?_
  refine g_icmp_lt X (tgt := 144) dX3_advance_128 (by decide) (fun c128 => ?_) (fun c128 => ?_)
  · have hf := it c128 hf
    exact w_X3_advance_144 hRd X hret v1 m0 hf
  · have hf := ie c128 hf
    refine g_iload_n X 1 dX3_advance_131 rfl rfl ?_
    refine g_bipush X (v := 57) dX3_advance_132 (by decide) ?_
    refine g_icmp_gt X (tgt := 144) dX3_advance_134 (by decide) (fun c134 => ?_) (fun c134 => ?_)
    · have hf := it c134 hf
      exact w_X3_advance_144 hRd X hret v1 m0 hf
    · have hf := ie c134 hf
      refine g_aload_n X 0 dX3_advance_137 rfl rfl ?_
      obtain ⟨m138, h138, hf⟩ := bv_i hf
      refine g_eVV X 30 2 [] kV_X3_96 (c_X3_takeNumber hRd h138) dX3_advance_138 rfl rfl (rd_lt hRd (by decide)) rfl (by decide) rfl rfl ⟨(Nat.le_of_ble_eq_true rfl), (Nat.le_of_ble_eq_true rfl)⟩ ⟨rfl, rfl⟩ ⟨(Nat.zero_le _), (Nat.zero_le _)⟩ (Nat.le_of_ble_eq_true rfl) ?_
      refine g_goto X (tgt := 163) dX3_advance_141 (by decide) ?_
      obtain rfl := lf1 hf
      exact hret 163 _ dX3_advance_163
set_option maxRecDepth 100000 in
set_option maxHeartbeats 4000000 in
theorem w_X3_advance_61 {Γ : Ga} {b : Nat} {σ : St} {m9 : Mem} (hRd : RdOk σ) (X : Cx Γ b cX3_advance 2 RX3 (none) rmX3_advance) (hret : ∀ (pc : Nat) (lv : List (Nat × Value)), decode cX3_advance pc = .ok (.return_, 1) → Go Γ b σ 0 0 pc lv [] m9) (m0 : Mem) (hf : X3_advance_61 m0 = some m9) : Go Γ b σ 0 0 61 [(0, .ref (σ.1 30))] [] m0 := by
  refine g_aload_n X 0 dX3_advance_61 rfl rfl ?_
  refine g_aload_n X 0 dX3_advance_62 rfl rfl ?_
  refine g_getI X 30 2 6 dX3_advance_63 (rd_lt hRd (by decide)) rfl (by decide) rfl iw_X3 (by decide) rfl q_fl_X3_31 ?_
  refine g_putI X (tyf := tyX3) 30 2 4 dX3_advance_66 (rd_lt hRd (by decide)) rfl (by decide) rfl iw_X3 (by decide) rfl q_fl_X3_25 tyX3_ok nmX3 rfl rfl rfl ?_
  refine g_aload_n X 0 dX3_advance_69 rfl rfl ?_
  refine g_getI X 30 2 6 dX3_advance_70 (rd_lt hRd (by decide)) rfl (by decide) rfl iw_X3 (by decide) rfl q_fl_X3_31 ?_
  refine g_aload_n X 0 dX3_advance_73 rfl rfl ?_
  refine g_getI X 30 2 1 dX3_advance_74 (rd_lt hRd (by decide)) rfl (by decide) rfl iw_X3 (by decide) rfl q_fl_X3_15 ?_
  refine g_icmp_lt X (tgt := 86) dX3_advance_77 (by decide) (fun c77 => ?_) (fun c77 => ?_)
  · have hf := it c77 hf
    refine g_aload_n X 0 dX3_advance_86 rfl rfl ?_
    refine g_getr X (x := σ.1 31) 30 2 0 dX3_advance_87 (rd_lt hRd (by decide)) rfl (by decide) rfl iw_X3 (by decide) rfl q_fl_X3_9 hRd.2.1 ?_
    refine g_aload_n X 0 dX3_advance_90 rfl rfl ?_
    refine g_getI X 30 2 6 dX3_advance_91 (rd_lt hRd (by decide)) rfl (by decide) rfl iw_X3 (by decide) rfl q_fl_X3_31 ?_
    obtain ⟨h94, hf⟩ := grd hf
    refine g_iald X 31 (n := 160) dX3_advance_94 (rd_lt hRd (by decide)) rfl hRd.2.2.2.1 h94 ?_
    refine g_istore_n X (lv' := [(1, .int ((pI m0 30 4 (m0.1 30 6)).1 31 ((pI m0 30 4 (m0.1 30 6)).1 30 6).toNatClampNeg)), (0, .ref (σ.1 30))]) dX3_advance_95 rfl (by decide) rfl ?_
    refine g_aload_n X 1 dX3_advance_96 rfl rfl ?_
    refine g_dup X dX3_advance_97 rfl ?_
    refine g_getI X 30 2 6 dX3_advance_98 (rd_lt hRd (by decide)) rfl (by decide) rfl iw_X3 (by decide) rfl q_fl_X3_31 ?_
    refine g_iconst X (v := 1) dX3_advance_101 (by decide) ?_
    refine g_iadd X dX3_advance_102 ?_
    refine g_putI X (tyf := tyX3) 30 2 6 dX3_advance_103 (rd_lt hRd (by decide)) rfl (by decide) rfl iw_X3 (by decide) rfl q_fl_X3_31 tyX3_ok nmX3 rfl rfl rfl ?_
    refine g_iload_n X 0 dX3_advance_106 rfl rfl ?_
    refine g_bipush X (v := 97) dX3_advance_107 (by decide) ?_
    refine g_icmp_lt X (tgt := 125) dX3_advance_109 (by decide) (fun c109 => ?_) (fun c109 => ?_)
    · have hf := it c109 hf
      refine g_pick [1, 0] (lv' := [(0, .ref (σ.1 30)), (1, .int ((pI m0 30 4 (m0.1 30 6)).1 31 ((pI m0 30 4 (m0.1 30 6)).1 30 6).toNatClampNeg))]) rfl ?_
      exact w_X3_advance_125 hRd X hret ((pI m0 30 4 (m0.1 30 6)).1 31 ((pI m0 30 4 (m0.1 30 6)).1 30 6).toNatClampNeg) (pI (pI m0 30 4 (m0.1 30 6)) 30 6 (((pI m0 30 4 (m0.1 30 6)).1 30 6) + (1 : Int32))) hf
    · have hf := ie c109 hf
      refine g_iload_n X 0 dX3_advance_112 rfl rfl ?_
      refine g_bipush X (v := 122) dX3_advance_113 (by decide) ?_
      refine g_icmp_gt X (tgt := 125) dX3_advance_115 (by decide) (fun c115 => ?_) (fun c115 => ?_)
      · have hf := it c115 hf
        refine g_pick [1, 0] (lv' := [(0, .ref (σ.1 30)), (1, .int ((pI m0 30 4 (m0.1 30 6)).1 31 ((pI m0 30 4 (m0.1 30 6)).1 30 6).toNatClampNeg))]) rfl ?_
        exact w_X3_advance_125 hRd X hret ((pI m0 30 4 (m0.1 30 6)).1 31 ((pI m0 30 4 (m0.1 30 6)).1 30 6).toNatClampNeg) (pI (pI m0 30 4 (m0.1 30 6)) 30 6 (((pI m0 30 4 (m0.1 30 6)).1 30 6) + (1 : Int32))) hf
      · have hf := ie c115 hf
        refine g_aload_n X 1 dX3_advance_118 rfl rfl ?_
        obtain ⟨m119, h119, hf⟩ := bv_i hf
        refine g_eVV X 30 2 [] kV_X3_93 (c_X3_takeWord hRd h119) dX3_advance_119 rfl rfl (rd_lt hRd (by decide)) rfl (by decide) rfl rfl ⟨(Nat.le_of_ble_eq_true rfl), (Nat.le_of_ble_eq_true rfl)⟩ ⟨rfl, rfl⟩ ⟨(Nat.zero_le _), (Nat.zero_le _)⟩ (Nat.le_of_ble_eq_true rfl) ?_
        refine g_goto X (tgt := 163) dX3_advance_122 (by decide) ?_
        obtain rfl := lf1 hf
        exact hret 163 _ dX3_advance_163
  · have hf := ie c77 hf
    refine g_aload_n X 0 dX3_advance_80 rfl rfl ?_
    refine g_iconst X (v := 0) dX3_advance_81 (by decide) ?_
    refine g_putI X (tyf := tyX3) 30 2 3 dX3_advance_82 (rd_lt hRd (by decide)) rfl (by decide) rfl iw_X3 (by decide) rfl q_fl_X3_22 tyX3_ok nmX3 rfl rfl rfl ?_
    obtain rfl := lf1 hf
    exact hret 85 _ dX3_advance_85
set_option maxRecDepth 100000 in
set_option maxHeartbeats 4000000 in
theorem w_X3_advance_48 {Γ : Ga} {b : Nat} {σ : St} {k9 : Mem → Option (Mem)} {m9 : Mem} (hRd : RdOk σ) (X : Cx Γ b cX3_advance 2 RX3 (none) rmX3_advance) (hret : ∀ (pc : Nat) (lv : List (Nat × Value)), decode cX3_advance pc = .ok (.return_, 1) → Go Γ b σ 0 0 pc lv [] m9) (hk9 : ∀ (m0 : Mem), k9 m0 = some m9 → Go Γ b σ 0 0 9 [(0, .ref (σ.1 30))] [] m0) (m0 : Mem) (hf : X3_advance_48 k9 m0 = some m9) : Go Γ b σ 0 0 48 [(0, .ref (σ.1 30))] [] m0 := by
  refine g_aload_n X 0 dX3_advance_48 rfl rfl ?_
  refine g_dup X dX3_advance_49 rfl ?_
  refine g_getI X 30 2 6 dX3_advance_50 (rd_lt hRd (by decide)) rfl (by decide) rfl iw_X3 (by decide) rfl q_fl_X3_31 ?_
  refine g_iconst X (v := 1) dX3_advance_53 (by decide) ?_
  refine g_iadd X dX3_advance_54 ?_
  refine g_putI X (tyf := tyX3) 30 2 6 dX3_advance_55 (rd_lt hRd (by decide)) rfl (by decide) rfl iw_X3 (by decide) rfl q_fl_X3_31 tyX3_ok nmX3 rfl rfl rfl ?_
  refine g_goto X (tgt := 9) dX3_advance_58 (by decide) ?_
  exact hk9 (pI m0 30 6 ((m0.1 30 6) + (1 : Int32))) hf
set_option maxRecDepth 100000 in
set_option maxHeartbeats 4000000 in
theorem w_X3_advance_9 {Γ : Ga} {b : Nat} {σ : St} {m9 : Mem} (hRd : RdOk σ) (X : Cx Γ b cX3_advance 2 RX3 (none) rmX3_advance) (hret : ∀ (pc : Nat) (lv : List (Nat × Value)), decode cX3_advance pc = .ok (.return_, 1) → Go Γ b σ 0 0 pc lv [] m9) : ∀ (n : Nat) (m0 : Mem), X3_advance_9 n m0 = some m9 → Go Γ b σ 0 0 9 [(0, .ref (σ.1 30))] [] m0 := by
  intro n
  induction n with
  | zero =>
    intro m0 hf
    cases hf
  | succ n ih =>
    intro m0 hf
    refine g_aload_n X 0 dX3_advance_9 rfl rfl ?_
    refine g_getI X 30 2 6 dX3_advance_10 (rd_lt hRd (by decide)) rfl (by decide) rfl iw_X3 (by decide) rfl q_fl_X3_31 ?_
    refine g_aload_n X 0 dX3_advance_13 rfl rfl ?_
    refine g_getI X 30 2 1 dX3_advance_14 (rd_lt hRd (by decide)) rfl (by decide) rfl iw_X3 (by decide) rfl q_fl_X3_15 ?_
    refine g_icmp_ge X (tgt := 61) dX3_advance_17 (by decide) (fun c17 => ?_) (fun c17 => ?_)
    · have hf := it c17 hf
      exact w_X3_advance_61 hRd X hret m0 hf
    · have hf := ie c17 hf
      refine g_aload_n X 0 dX3_advance_20 rfl rfl ?_
      refine g_getr X (x := σ.1 31) 30 2 0 dX3_advance_21 (rd_lt hRd (by decide)) rfl (by decide) rfl iw_X3 (by decide) rfl q_fl_X3_9 hRd.2.1 ?_
      refine g_aload_n X 0 dX3_advance_24 rfl rfl ?_
      refine g_getI X 30 2 6 dX3_advance_25 (rd_lt hRd (by decide)) rfl (by decide) rfl iw_X3 (by decide) rfl q_fl_X3_31 ?_
      obtain ⟨h28, hf⟩ := grd hf
      refine g_iald X 31 (n := 160) dX3_advance_28 (rd_lt hRd (by decide)) rfl hRd.2.2.2.1 h28 ?_
      refine g_bipush X (v := 32) dX3_advance_29 (by decide) ?_
      refine g_icmp_eq X (tgt := 48) dX3_advance_31 (by decide) (fun c31 => ?_) (fun c31 => ?_)
      · have hf := it c31 hf
        exact w_X3_advance_48 hRd X hret ih m0 hf
      · have hf := ie c31 hf
        refine g_aload_n X 0 dX3_advance_34 rfl rfl ?_
        refine g_getr X (x := σ.1 31) 30 2 0 dX3_advance_35 (rd_lt hRd (by decide)) rfl (by decide) rfl iw_X3 (by decide) rfl q_fl_X3_9 hRd.2.1 ?_
        refine g_aload_n X 0 dX3_advance_38 rfl rfl ?_
        refine g_getI X 30 2 6 dX3_advance_39 (rd_lt hRd (by decide)) rfl (by decide) rfl iw_X3 (by decide) rfl q_fl_X3_31 ?_
        obtain ⟨h42, hf⟩ := grd hf
        refine g_iald X 31 (n := 160) dX3_advance_42 (rd_lt hRd (by decide)) rfl hRd.2.2.2.1 h42 ?_
        refine g_bipush X (v := 10) dX3_advance_43 (by decide) ?_
        refine g_icmp_ne X (tgt := 61) dX3_advance_45 (by decide) (fun c45 => ?_) (fun c45 => ?_)
        · have hf := ie c45 hf
          exact w_X3_advance_61 hRd X hret m0 hf
        · have hf := it c45 hf
          exact w_X3_advance_48 hRd X hret ih m0 hf
set_option maxRecDepth 100000 in
set_option maxHeartbeats 4000000 in
theorem c_X3_advance {l : Launch} {G : GG} {b : Nat} {σ : St} {m0 : Mem} {m9 : Mem} (hRd : RdOk σ) (hf : X3_advance m0 = some m9) : MtV l yX3_advance cX3_advance 2 (none) rmX3_advance G b σ m0 [.ref (σ.1 30)] (pEV σ m9) := by
  refine mtV_of (by decide) (Nat.le_of_ble_eq_true rfl) rfl (fun Γ hG X hnm hr => ?_)
  have hret : ∀ (pc : Nat) (lv : List (Nat × Value)), decode cX3_advance pc = .ok (.return_, 1) → Go Γ b σ 0 0 pc lv [] m9 := fun pc lv d => hr pc lv _ _ d ⟨rfl, rfl⟩
  show Go Γ b σ 0 0 0 [(0, .ref (σ.1 30))] [] m0
  refine g_aload_n X 0 dX3_advance_0 rfl rfl ?_
  refine g_getI X 30 2 2 dX3_advance_1 (rd_lt hRd (by decide)) rfl (by decide) rfl iw_X3 (by decide) rfl q_fl_X3_19 ?_
  refine g_iconst X (v := -1) dX3_advance_4 (by decide) ?_
  refine g_icmp_eq X (tgt := 9) dX3_advance_5 (by decide) (fun c5 => ?_) (fun c5 => ?_)
  · have hf := it c5 hf
    exact w_X3_advance_9 hRd X hret 10000 m0 hf
  · have hf := ie c5 hf
    obtain rfl := lf1 hf
    exact hret 8 _ dX3_advance_8
