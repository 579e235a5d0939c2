theorem kV_X10_66 : wcV RX10 66 RX10 yX10_spell cX10_spell 10 (none) 9 := ⟨q_ml_X10_66, q_im_yX10_spell, q_se_yX10_spell, q_in_X10, q_co_yX10_spell, by decide +kernel⟩

def X10_init_129 (m0 : Mem) : Option (Mem) :=
  bv (X10_spreads m0) fun m130 =>
  bv (X10_spell (0 : Int32) (116 : Int32) (97 : Int32) (107 : Int32) (101 : Int32) (115 : Int32) (32 : Int32) (110 : Int32) (111 : Int32) m130) fun m151 =>
  bv (X10_spell (8 : Int32) (116 : Int32) (32 : Int32) (104 : Int32) (101 : Int32) (114 : Int32) (101 : Int32) (32 : Int32) (59 : Int32) m151) fun m173 =>
  bv (X10_spell (16 : Int32) (32 : Int32) (119 : Int32) (111 : Int32) (114 : Int32) (116 : Int32) (104 : Int32) (32 : Int32) (102 : Int32) m173) fun m195 =>
  bv (X10_spell (24 : Int32) (97 : Int32) (114 : Int32) (32 : Int32) (59 : Int32) (32 : Int32) (116 : Int32) (105 : Int32) (109 : Int32) m195) fun m217 =>
  bv (X10_spell (32 : Int32) (101 : Int32) (115 : Int32) (32 : Int32) (49 : Int32) (32 : Int32) (43 : Int32) (32 : Int32) (102 : Int32) m217) fun m239 =>
  bv (X10_spell (40 : Int32) (97 : Int32) (114 : Int32) (32 : Int32) (59 : Int32) (32 : Int32) (32 : Int32) (32 : Int32) (32 : Int32) m239) fun m261 =>
  if inn (0 : Int32) 6 then
  some (pI (pI m261 65 (0 : Int32).toNatClampNeg (48 : Int32)) 63 3 (1 : Int32))
  else none
def X10_init (m0 : Mem) : Option (Mem) :=
  X10_init_129 m0
abbrev rmX10_init : Room := { frames := 1, cells := 15, slots := 1594, locals := 60 }
set_option maxRecDepth 100000 in
set_option maxHeartbeats 4000000 in
theorem w_X10_init_129 {Γ : Ga} {b : Nat} {ad : Nat → Nat} {nt : Nat} {z : Nat → Nat} {m9 : Mem} (X : Cx Γ b cX10_init 1 RX10 (none) rmX10_init) (hret : ∀ (pc : Nat) (lv : List (Nat × Value)), decode cX10_init pc = .ok (.return_, 1) → Go Γ b (sg ad nt z) 15 1594 pc lv [] m9) (m0 : Mem) (hf : X10_init_129 m0 = some m9) : Go Γ b (sg ad nt z) 15 1594 129 [(0, .ref (ad 63))] [] m0 := by
  refine g_aload_n X 0 dX10_init_129 rfl rfl ?_
  obtain ⟨m130, h130, hf⟩ := bv_i hf
  refine g_eVV X 63 9 [] kV_X10_63 (c_X10_spreads h130) dX10_init_130 rfl rfl (sgN (by decide)) rfl (by decide) rfl rfl ⟨(Nat.le_of_ble_eq_true rfl), (Nat.le_of_ble_eq_true rfl)⟩ ⟨rfl, rfl⟩ ⟨(Nat.le_of_ble_eq_true rfl), (Nat.le_of_ble_eq_true rfl)⟩ (Nat.le_of_ble_eq_true rfl) ?_
  refine g_aload_n X 0 dX10_init_133 rfl rfl ?_
  refine g_iconst X (v := 0) dX10_init_134 (by decide) ?_
  refine g_bipush X (v := 116) dX10_init_135 (by decide) ?_
  refine g_bipush X (v := 97) dX10_init_137 (by decide) ?_
  refine g_bipush X (v := 107) dX10_init_139 (by decide) ?_
  refine g_bipush X (v := 101) dX10_init_141 (by decide) ?_
  refine g_bipush X (v := 115) dX10_init_143 (by decide) ?_
  refine g_bipush X (v := 32) dX10_init_145 (by decide) ?_
  refine g_bipush X (v := 110) dX10_init_147 (by decide) ?_
  refine g_bipush X (v := 111) dX10_init_149 (by decide) ?_
  obtain ⟨m151, h151, hf⟩ := bv_i hf
  refine g_eVV X 63 9 [.int (0 : Int32), .int (116 : Int32), .int (97 : Int32), .int (107 : Int32), .int (101 : Int32), .int (115 : Int32), .int (32 : Int32), .int (110 : Int32), .int (111 : Int32)] kV_X10_66 (c_X10_spell h151) dX10_init_151 rfl rfl (sgN (by decide)) rfl (by decide) rfl rfl ⟨(Nat.le_of_ble_eq_true rfl), (Nat.le_of_ble_eq_true rfl)⟩ ⟨rfl, rfl⟩ ⟨(Nat.le_of_ble_eq_true rfl), (Nat.le_of_ble_eq_true rfl)⟩ (Nat.le_of_ble_eq_true rfl) ?_
  refine g_aload_n X 0 dX10_init_154 rfl rfl ?_
  refine g_bipush X (v := 8) dX10_init_155 (by decide) ?_
  refine g_bipush X (v := 116) dX10_init_157 (by decide) ?_
  refine g_bipush X (v := 32) dX10_init_159 (by decide) ?_
  refine g_bipush X (v := 104) dX10_init_161 (by decide) ?_
  refine g_bipush X (v := 101) dX10_init_163 (by decide) ?_
  refine g_bipush X (v := 114) dX10_init_165 (by decide) ?_
  refine g_bipush X (v := 101) dX10_init_167 (by decide) ?_
  refine g_bipush X (v := 32) dX10_init_169 (by decide) ?_
  refine g_bipush X (v := 59) dX10_init_171 (by decide) ?_
  obtain ⟨m173, h173, hf⟩ := bv_i hf
  refine g_eVV X 63 9 [.int (8 : Int32), .int (116 : Int32), .int (32 : Int32), .int (104 : Int32), .int (101 : Int32), .int (114 : Int32), .int (101 : Int32), .int (32 : Int32), .int (59 : Int32)] kV_X10_66 (c_X10_spell h173) dX10_init_173 rfl rfl (sgN (by decide)) rfl (by decide) rfl rfl ⟨(Nat.le_of_ble_eq_true rfl), (Nat.le_of_ble_eq_true rfl)⟩ ⟨rfl, rfl⟩ ⟨(Nat.le_of_ble_eq_true rfl), (Nat.le_of_ble_eq_true rfl)⟩ (Nat.le_of_ble_eq_true rfl) ?_
  refine g_aload_n X 0 dX10_init_176 rfl rfl ?_
  refine g_bipush X (v := 16) dX10_init_177 (by decide) ?_
  refine g_bipush X (v := 32) dX10_init_179 (by decide) ?_
  refine g_bipush X (v := 119) dX10_init_181 (by decide) ?_
  refine g_bipush X (v := 111) dX10_init_183 (by decide) ?_
  refine g_bipush X (v := 114) dX10_init_185 (by decide) ?_
  refine g_bipush X (v := 116) dX10_init_187 (by decide) ?_
  refine g_bipush X (v := 104) dX10_init_189 (by decide) ?_
  refine g_bipush X (v := 32) dX10_init_191 (by decide) ?_
  refine g_bipush X (v := 102) dX10_init_193 (by decide) ?_
  obtain ⟨m195, h195, hf⟩ := bv_i hf
  refine g_eVV X 63 9 [.int (16 : Int32), .int (32 : Int32), .int (119 : Int32), .int (111 : Int32), .int (114 : Int32), .int (116 : Int32), .int (104 : Int32), .int (32 : Int32), .int (102 : Int32)] kV_X10_66 (c_X10_spell h195) dX10_init_195 rfl rfl (sgN (by decide)) rfl (by decide) rfl rfl ⟨(Nat.le_of_ble_eq_true rfl), (Nat.le_of_ble_eq_true rfl)⟩ ⟨rfl, rfl⟩ ⟨(Nat.le_of_ble_eq_true rfl), (Nat.le_of_ble_eq_true rfl)⟩ (Nat.le_of_ble_eq_true rfl) ?_
  refine g_aload_n X 0 dX10_init_198 rfl rfl ?_
  refine g_bipush X (v := 24) dX10_init_199 (by decide) ?_
  refine g_bipush X (v := 97) dX10_init_201 (by decide) ?_
  refine g_bipush X (v := 114) dX10_init_203 (by decide) ?_
  refine g_bipush X (v := 32) dX10_init_205 (by decide) ?_
  refine g_bipush X (v := 59) dX10_init_207 (by decide) ?_
  refine g_bipush X (v := 32) dX10_init_209 (by decide) ?_
  refine g_bipush X (v := 116) dX10_init_211 (by decide) ?_
  refine g_bipush X (v := 105) dX10_init_213 (by decide) ?_
  refine g_bipush X (v := 109) dX10_init_215 (by decide) ?_
  obtain ⟨m217, h217, hf⟩ := bv_i hf
  refine g_eVV X 63 9 [.int (24 : Int32), .int (97 : Int32), .int (114 : Int32), .int (32 : Int32), .int (59 : Int32), .int (32 : Int32), .int (116 : Int32), .int (105 : Int32), .int (109 : Int32)] kV_X10_66 (c_X10_spell h217) dX10_init_217 rfl rfl (sgN (by decide)) rfl (by decide) rfl rfl ⟨(Nat.le_of_ble_eq_true rfl), (Nat.le_of_ble_eq_true rfl)⟩ ⟨rfl, rfl⟩ ⟨(Nat.le_of_ble_eq_true rfl), (Nat.le_of_ble_eq_true rfl)⟩ (Nat.le_of_ble_eq_true rfl) ?_
  refine g_aload_n X 0 dX10_init_220 rfl rfl ?_
  refine g_bipush X (v := 32) dX10_init_221 (by decide) ?_
  refine g_bipush X (v := 101) dX10_init_223 (by decide) ?_
  refine g_bipush X (v := 115) dX10_init_225 (by decide) ?_
  refine g_bipush X (v := 32) dX10_init_227 (by decide) ?_
  refine g_bipush X (v := 49) dX10_init_229 (by decide) ?_
  refine g_bipush X (v := 32) dX10_init_231 (by decide) ?_
  refine g_bipush X (v := 43) dX10_init_233 (by decide) ?_
  refine g_bipush X (v := 32) dX10_init_235 (by decide) ?_
  refine g_bipush X (v := 102) dX10_init_237 (by decide) ?_
  obtain ⟨m239, h239, hf⟩ := bv_i hf
  refine g_eVV X 63 9 [.int (32 : Int32), .int (101 : Int32), .int (115 : Int32), .int (32 : Int32), .int (49 : Int32), .int (32 : Int32), .int (43 : Int32), .int (32 : Int32), .int (102 : Int32)] kV_X10_66 (c_X10_spell h239) dX10_init_239 rfl rfl (sgN (by decide)) rfl (by decide) rfl rfl ⟨(Nat.le_of_ble_eq_true rfl), (Nat.le_of_ble_eq_true rfl)⟩ ⟨rfl, rfl⟩ ⟨(Nat.le_of_ble_eq_true rfl), (Nat.le_of_ble_eq_true rfl)⟩ (Nat.le_of_ble_eq_true rfl) ?_
  refine g_aload_n X 0 dX10_init_242 rfl rfl ?_
  refine g_bipush X (v := 40) dX10_init_243 (by decide) ?_
  refine g_bipush X (v := 97) dX10_init_245 (by decide) ?_
  refine g_bipush X (v := 114) dX10_init_247 (by decide) ?_
  refine g_bipush X (v := 32) dX10_init_249 (by decide) ?_
  refine g_bipush X (v := 59) dX10_init_251 (by decide) ?_
  refine g_bipush X (v := 32) dX10_init_253 (by decide) ?_
  refine g_bipush X (v := 32) dX10_init_255 (by decide) ?_
  refine g_bipush X (v := 32) dX10_init_257 (by decide) ?_
  refine g_bipush X (v := 32) dX10_init_259 (by decide) ?_
  obtain ⟨m261, h261, hf⟩ := bv_i hf
  refine g_eVV X 63 9 [.int (40 : Int32), .int (97 : Int32), .int (114 : Int32), .int (32 : Int32), .int (59 : Int32), .int (32 : Int32), .int (32 : Int32), .int (32 : Int32), .int (32 : Int32)] kV_X10_66 (c_X10_spell h261) dX10_init_261 rfl rfl (sgN (by decide)) rfl (by decide) rfl rfl ⟨(Nat.le_of_ble_eq_true rfl), (Nat.le_of_ble_eq_true rfl)⟩ ⟨rfl, rfl⟩ ⟨(Nat.le_of_ble_eq_true rfl), (Nat.le_of_ble_eq_true rfl)⟩ (Nat.le_of_ble_eq_true rfl) ?_
  refine g_aload_n X 0 dX10_init_264 rfl rfl ?_
  refine g_getr X (x := ad 65) 63 9 2 dX10_init_265 (sgN (by decide)) rfl (by decide) rfl iw_X10 (by decide) rfl q_fl_X10_17 rfl ?_
  refine g_iconst X (v := 0) dX10_init_268 (by decide) ?_
  refine g_bipush X (v := 48) dX10_init_269 (by decide) ?_
  obtain ⟨h271, hf⟩ := grd hf
  refine g_iast X 65 (n := 6) dX10_init_271 (sgN (by decide)) rfl rfl h271 ?_
  refine g_aload_n X 0 dX10_init_272 rfl rfl ?_
  refine g_iconst X (v := 1) dX10_init_273 (by decide) ?_
  refine g_putI X (tyf := tyX10) 63 9 3 dX10_init_274 (sgN (by decide)) rfl (by decide) rfl iw_X10 (by decide) rfl q_fl_X10_70 tyX10_ok nmX10 rfl rfl rfl ?_
  obtain rfl := lf1 hf
  exact hret 277 _ dX10_init_277
def Sref (σ : St) (q64 q65 q66 q67 q68 q69 q70 q71 q72 q73 q74 q75 q76 q77 q78 : Nat) : St := pR (nS (pR (nS (pR (nS (pR (nS (pR (nS (pR (nS (pR (nS (pR (nS (pR (nS (pR (nS (pR (nS (pR (nS (pR (nS (pR (nS (pR (nS ((σ.1, 64, σ.2.2.1, σ.2.2.2)) q64 960) 63 1 (some q64)) q65 6) 63 2 (some q65)) q66 160) 63 5 (some q66)) q67 64) 63 8 (some q67)) q68 6) 63 9 (some q68)) q69 30) 63 10 (some q69)) q70 64) 63 12 (some q70)) q71 30) 63 28 (some q71)) q72 8) 63 30 (some q72)) q73 64) 63 31 (some q73)) q74 30) 63 32 (some q74)) q75 4) 63 36 (some q75)) q76 4) 63 37 (some q76)) q77 4) 63 38 (some q77)) q78 160) 63 39 (some q78)
def Mref (m0 : Mem) : Mem := nM (nM (nM (nM (pI (nM (nM (nM (nM (nM (nM (nM (nM (nM (nM (nM m0 64) 65) 66) 67) 68) 69) 70) 71) 72) 73) 74) 63 33 (-1 : Int32)) 75) 76) 77) 78
set_option maxRecDepth 100000 in
set_option maxHeartbeats 1000000 in
theorem ag_63 {ad : Nat → Nat} {R : Nat → Nat → Option Nat} {Z : Nat → Nat} {z : Nat → Nat} {q64 q65 q66 q67 q68 q69 q70 q71 q72 q73 q74 q75 q76 q77 q78 : Nat} : (kd 63 < 10 → ∀ k, k < nf (kd 63) → ft (kd 63) k = 2 → (Sref (ad, 64, R, Z) q64 q65 q66 q67 q68 q69 q70 q71 q72 q73 q74 q75 q76 q77 q78).2.2.1 63 k = (rt 0 63 k).map (Sref (ad, 64, R, Z) q64 q65 q66 q67 q68 q69 q70 q71 q72 q73 q74 q75 q76 q77 q78).1) ∧ (¬ kd 63 < 10 → (Sref (ad, 64, R, Z) q64 q65 q66 q67 q68 q69 q70 q71 q72 q73 q74 q75 q76 q77 q78).2.2.2 63 = ln z 63) ∧ (¬ kd 63 < 12 → (Sref (ad, 64, R, Z) q64 q65 q66 q67 q68 q69 q70 q71 q72 q73 q74 q75 q76 q77 q78).2.2.1 63 = fun k => (rt 0 63 k).map (Sref (ad, 64, R, Z) q64 q65 q66 q67 q68 q69 q70 q71 q72 q73 q74 q75 q76 q77 q78).1) :=
  ⟨fun _ k hk ht => by
      have hk : k < 40 := hk
      rcases (show k = 0 ∨ k = 1 ∨ k = 2 ∨ k = 3 ∨ k = 4 ∨ k = 5 ∨ k = 6 ∨ k = 7 ∨ k = 8 ∨ k = 9 ∨ k = 10 ∨ k = 11 ∨ k = 12 ∨ k = 13 ∨ k = 14 ∨ k = 15 ∨ k = 16 ∨ k = 17 ∨ k = 18 ∨ k = 19 ∨ k = 20 ∨ k = 21 ∨ k = 22 ∨ k = 23 ∨ k = 24 ∨ k = 25 ∨ k = 26 ∨ k = 27 ∨ k = 28 ∨ k = 29 ∨ k = 30 ∨ k = 31 ∨ k = 32 ∨ k = 33 ∨ k = 34 ∨ k = 35 ∨ k = 36 ∨ k = 37 ∨ k = 38 ∨ k = 39 by omega) with rfl | rfl | rfl | rfl | rfl | rfl | rfl | rfl | rfl | rfl | rfl | rfl | rfl | rfl | rfl | rfl | rfl | rfl | rfl | rfl | rfl | rfl | rfl | rfl | rfl | rfl | rfl | rfl | rfl | rfl | rfl | rfl | rfl | rfl | rfl | rfl | rfl | rfl | rfl | rfl
      · exact absurd ht (by decide)
      · rfl
      · rfl
      · exact absurd ht (by decide)
      · exact absurd ht (by decide)
      · rfl
      · exact absurd ht (by decide)
      · exact absurd ht (by decide)
      · rfl
      · rfl
      · rfl
      · exact absurd ht (by decide)
      · rfl
      · exact absurd ht (by decide)
      · exact absurd ht (by decide)
      · exact absurd ht (by decide)
      · exact absurd ht (by decide)
      · exact absurd ht (by decide)
      · exact absurd ht (by decide)
      · exact absurd ht (by decide)
      · exact absurd ht (by decide)
      · exact absurd ht (by decide)
      · exact absurd ht (by decide)
      · exact absurd ht (by decide)
      · exact absurd ht (by decide)
      · exact absurd ht (by decide)
      · exact absurd ht (by decide)
      · exact absurd ht (by decide)
      · rfl
      · exact absurd ht (by decide)
      · rfl
      · rfl
      · rfl
      · exact absurd ht (by decide)
      · exact absurd ht (by decide)
      · exact absurd ht (by decide)
      · rfl
      · rfl
      · rfl
      · rfl, fun h => absurd (by decide) h, fun h => absurd (by decide) h⟩
set_option maxRecDepth 100000 in
set_option maxHeartbeats 1000000 in
theorem ag_64 {ad : Nat → Nat} {R : Nat → Nat → Option Nat} {Z : Nat → Nat} {z : Nat → Nat} {q64 q65 q66 q67 q68 q69 q70 q71 q72 q73 q74 q75 q76 q77 q78 : Nat} : (kd 64 < 10 → ∀ k, k < nf (kd 64) → ft (kd 64) k = 2 → (Sref (ad, 64, R, Z) q64 q65 q66 q67 q68 q69 q70 q71 q72 q73 q74 q75 q76 q77 q78).2.2.1 64 k = (rt 0 64 k).map (Sref (ad, 64, R, Z) q64 q65 q66 q67 q68 q69 q70 q71 q72 q73 q74 q75 q76 q77 q78).1) ∧ (¬ kd 64 < 10 → (Sref (ad, 64, R, Z) q64 q65 q66 q67 q68 q69 q70 q71 q72 q73 q74 q75 q76 q77 q78).2.2.2 64 = ln z 64) ∧ (¬ kd 64 < 12 → (Sref (ad, 64, R, Z) q64 q65 q66 q67 q68 q69 q70 q71 q72 q73 q74 q75 q76 q77 q78).2.2.1 64 = fun k => (rt 0 64 k).map (Sref (ad, 64, R, Z) q64 q65 q66 q67 q68 q69 q70 q71 q72 q73 q74 q75 q76 q77 q78).1) :=
  ⟨fun h => absurd h (by decide), fun _ => rfl, fun h => absurd (by decide) h⟩
set_option maxRecDepth 100000 in
set_option maxHeartbeats 1000000 in
theorem ag_65 {ad : Nat → Nat} {R : Nat → Nat → Option Nat} {Z : Nat → Nat} {z : Nat → Nat} {q64 q65 q66 q67 q68 q69 q70 q71 q72 q73 q74 q75 q76 q77 q78 : Nat} : (kd 65 < 10 → ∀ k, k < nf (kd 65) → ft (kd 65) k = 2 → (Sref (ad, 64, R, Z) q64 q65 q66 q67 q68 q69 q70 q71 q72 q73 q74 q75 q76 q77 q78).2.2.1 65 k = (rt 0 65 k).map (Sref (ad, 64, R, Z) q64 q65 q66 q67 q68 q69 q70 q71 q72 q73 q74 q75 q76 q77 q78).1) ∧ (¬ kd 65 < 10 → (Sref (ad, 64, R, Z) q64 q65 q66 q67 q68 q69 q70 q71 q72 q73 q74 q75 q76 q77 q78).2.2.2 65 = ln z 65) ∧ (¬ kd 65 < 12 → (Sref (ad, 64, R, Z) q64 q65 q66 q67 q68 q69 q70 q71 q72 q73 q74 q75 q76 q77 q78).2.2.1 65 = fun k => (rt 0 65 k).map (Sref (ad, 64, R, Z) q64 q65 q66 q67 q68 q69 q70 q71 q72 q73 q74 q75 q76 q77 q78).1) :=
  ⟨fun h => absurd h (by decide), fun _ => rfl, fun h => absurd (by decide) h⟩
set_option maxRecDepth 100000 in
set_option maxHeartbeats 1000000 in
theorem ag_66 {ad : Nat → Nat} {R : Nat → Nat → Option Nat} {Z : Nat → Nat} {z : Nat → Nat} {q64 q65 q66 q67 q68 q69 q70 q71 q72 q73 q74 q75 q76 q77 q78 : Nat} : (kd 66 < 10 → ∀ k, k < nf (kd 66) → ft (kd 66) k = 2 → (Sref (ad, 64, R, Z) q64 q65 q66 q67 q68 q69 q70 q71 q72 q73 q74 q75 q76 q77 q78).2.2.1 66 k = (rt 0 66 k).map (Sref (ad, 64, R, Z) q64 q65 q66 q67 q68 q69 q70 q71 q72 q73 q74 q75 q76 q77 q78).1) ∧ (¬ kd 66 < 10 → (Sref (ad, 64, R, Z) q64 q65 q66 q67 q68 q69 q70 q71 q72 q73 q74 q75 q76 q77 q78).2.2.2 66 = ln z 66) ∧ (¬ kd 66 < 12 → (Sref (ad, 64, R, Z) q64 q65 q66 q67 q68 q69 q70 q71 q72 q73 q74 q75 q76 q77 q78).2.2.1 66 = fun k => (rt 0 66 k).map (Sref (ad, 64, R, Z) q64 q65 q66 q67 q68 q69 q70 q71 q72 q73 q74 q75 q76 q77 q78).1) :=
  ⟨fun h => absurd h (by decide), fun _ => rfl, fun h => absurd (by decide) h⟩
set_option maxRecDepth 100000 in
set_option maxHeartbeats 1000000 in
theorem ag_67 {ad : Nat → Nat} {R : Nat → Nat → Option Nat} {Z : Nat → Nat} {z : Nat → Nat} {q64 q65 q66 q67 q68 q69 q70 q71 q72 q73 q74 q75 q76 q77 q78 : Nat} : (kd 67 < 10 → ∀ k, k < nf (kd 67) → ft (kd 67) k = 2 → (Sref (ad, 64, R, Z) q64 q65 q66 q67 q68 q69 q70 q71 q72 q73 q74 q75 q76 q77 q78).2.2.1 67 k = (rt 0 67 k).map (Sref (ad, 64, R, Z) q64 q65 q66 q67 q68 q69 q70 q71 q72 q73 q74 q75 q76 q77 q78).1) ∧ (¬ kd 67 < 10 → (Sref (ad, 64, R, Z) q64 q65 q66 q67 q68 q69 q70 q71 q72 q73 q74 q75 q76 q77 q78).2.2.2 67 = ln z 67) ∧ (¬ kd 67 < 12 → (Sref (ad, 64, R, Z) q64 q65 q66 q67 q68 q69 q70 q71 q72 q73 q74 q75 q76 q77 q78).2.2.1 67 = fun k => (rt 0 67 k).map (Sref (ad, 64, R, Z) q64 q65 q66 q67 q68 q69 q70 q71 q72 q73 q74 q75 q76 q77 q78).1) :=
  ⟨fun h => absurd h (by decide), fun _ => rfl, fun h => absurd (by decide) h⟩
set_option maxRecDepth 100000 in
set_option maxHeartbeats 1000000 in
theorem ag_68 {ad : Nat → Nat} {R : Nat → Nat → Option Nat} {Z : Nat → Nat} {z : Nat → Nat} {q64 q65 q66 q67 q68 q69 q70 q71 q72 q73 q74 q75 q76 q77 q78 : Nat} : (kd 68 < 10 → ∀ k, k < nf (kd 68) → ft (kd 68) k = 2 → (Sref (ad, 64, R, Z) q64 q65 q66 q67 q68 q69 q70 q71 q72 q73 q74 q75 q76 q77 q78).2.2.1 68 k = (rt 0 68 k).map (Sref (ad, 64, R, Z) q64 q65 q66 q67 q68 q69 q70 q71 q72 q73 q74 q75 q76 q77 q78).1) ∧ (¬ kd 68 < 10 → (Sref (ad, 64, R, Z) q64 q65 q66 q67 q68 q69 q70 q71 q72 q73 q74 q75 q76 q77 q78).2.2.2 68 = ln z 68) ∧ (¬ kd 68 < 12 → (Sref (ad, 64, R, Z) q64 q65 q66 q67 q68 q69 q70 q71 q72 q73 q74 q75 q76 q77 q78).2.2.1 68 = fun k => (rt 0 68 k).map (Sref (ad, 64, R, Z) q64 q65 q66 q67 q68 q69 q70 q71 q72 q73 q74 q75 q76 q77 q78).1) :=
  ⟨fun h => absurd h (by decide), fun _ => rfl, fun h => absurd (by decide) h⟩
set_option maxRecDepth 100000 in
set_option maxHeartbeats 1000000 in
theorem ag_69 {ad : Nat → Nat} {R : Nat → Nat → Option Nat} {Z : Nat → Nat} {z : Nat → Nat} {q64 q65 q66 q67 q68 q69 q70 q71 q72 q73 q74 q75 q76 q77 q78 : Nat} : (kd 69 < 10 → ∀ k, k < nf (kd 69) → ft (kd 69) k = 2 → (Sref (ad, 64, R, Z) q64 q65 q66 q67 q68 q69 q70 q71 q72 q73 q74 q75 q76 q77 q78).2.2.1 69 k = (rt 0 69 k).map (Sref (ad, 64, R, Z) q64 q65 q66 q67 q68 q69 q70 q71 q72 q73 q74 q75 q76 q77 q78).1) ∧ (¬ kd 69 < 10 → (Sref (ad, 64, R, Z) q64 q65 q66 q67 q68 q69 q70 q71 q72 q73 q74 q75 q76 q77 q78).2.2.2 69 = ln z 69) ∧ (¬ kd 69 < 12 → (Sref (ad, 64, R, Z) q64 q65 q66 q67 q68 q69 q70 q71 q72 q73 q74 q75 q76 q77 q78).2.2.1 69 = fun k => (rt 0 69 k).map (Sref (ad, 64, R, Z) q64 q65 q66 q67 q68 q69 q70 q71 q72 q73 q74 q75 q76 q77 q78).1) :=
  ⟨fun h => absurd h (by decide), fun _ => rfl, fun h => absurd (by decide) h⟩
set_option maxRecDepth 100000 in
set_option maxHeartbeats 1000000 in
theorem ag_70 {ad : Nat → Nat} {R : Nat → Nat → Option Nat} {Z : Nat → Nat} {z : Nat → Nat} {q64 q65 q66 q67 q68 q69 q70 q71 q72 q73 q74 q75 q76 q77 q78 : Nat} : (kd 70 < 10 → ∀ k, k < nf (kd 70) → ft (kd 70) k = 2 → (Sref (ad, 64, R, Z) q64 q65 q66 q67 q68 q69 q70 q71 q72 q73 q74 q75 q76 q77 q78).2.2.1 70 k = (rt 0 70 k).map (Sref (ad, 64, R, Z) q64 q65 q66 q67 q68 q69 q70 q71 q72 q73 q74 q75 q76 q77 q78).1) ∧ (¬ kd 70 < 10 → (Sref (ad, 64, R, Z) q64 q65 q66 q67 q68 q69 q70 q71 q72 q73 q74 q75 q76 q77 q78).2.2.2 70 = ln z 70) ∧ (¬ kd 70 < 12 → (Sref (ad, 64, R, Z) q64 q65 q66 q67 q68 q69 q70 q71 q72 q73 q74 q75 q76 q77 q78).2.2.1 70 = fun k => (rt 0 70 k).map (Sref (ad, 64, R, Z) q64 q65 q66 q67 q68 q69 q70 q71 q72 q73 q74 q75 q76 q77 q78).1) :=
  ⟨fun h => absurd h (by decide), fun _ => rfl, fun h => absurd (by decide) h⟩
set_option maxRecDepth 100000 in
set_option maxHeartbeats 1000000 in
theorem ag_71 {ad : Nat → Nat} {R : Nat → Nat → Option Nat} {Z : Nat → Nat} {z : Nat → Nat} {q64 q65 q66 q67 q68 q69 q70 q71 q72 q73 q74 q75 q76 q77 q78 : Nat} : (kd 71 < 10 → ∀ k, k < nf (kd 71) → ft (kd 71) k = 2 → (Sref (ad, 64, R, Z) q64 q65 q66 q67 q68 q69 q70 q71 q72 q73 q74 q75 q76 q77 q78).2.2.1 71 k = (rt 0 71 k).map (Sref (ad, 64, R, Z) q64 q65 q66 q67 q68 q69 q70 q71 q72 q73 q74 q75 q76 q77 q78).1) ∧ (¬ kd 71 < 10 → (Sref (ad, 64, R, Z) q64 q65 q66 q67 q68 q69 q70 q71 q72 q73 q74 q75 q76 q77 q78).2.2.2 71 = ln z 71) ∧ (¬ kd 71 < 12 → (Sref (ad, 64, R, Z) q64 q65 q66 q67 q68 q69 q70 q71 q72 q73 q74 q75 q76 q77 q78).2.2.1 71 = fun k => (rt 0 71 k).map (Sref (ad, 64, R, Z) q64 q65 q66 q67 q68 q69 q70 q71 q72 q73 q74 q75 q76 q77 q78).1) :=
  ⟨fun h => absurd h (by decide), fun _ => rfl, fun h => absurd (by decide) h⟩
set_option maxRecDepth 100000 in
set_option maxHeartbeats 1000000 in
theorem ag_72 {ad : Nat → Nat} {R : Nat → Nat → Option Nat} {Z : Nat → Nat} {z : Nat → Nat} {q64 q65 q66 q67 q68 q69 q70 q71 q72 q73 q74 q75 q76 q77 q78 : Nat} : (kd 72 < 10 → ∀ k, k < nf (kd 72) → ft (kd 72) k = 2 → (Sref (ad, 64, R, Z) q64 q65 q66 q67 q68 q69 q70 q71 q72 q73 q74 q75 q76 q77 q78).2.2.1 72 k = (rt 0 72 k).map (Sref (ad, 64, R, Z) q64 q65 q66 q67 q68 q69 q70 q71 q72 q73 q74 q75 q76 q77 q78).1) ∧ (¬ kd 72 < 10 → (Sref (ad, 64, R, Z) q64 q65 q66 q67 q68 q69 q70 q71 q72 q73 q74 q75 q76 q77 q78).2.2.2 72 = ln z 72) ∧ (¬ kd 72 < 12 → (Sref (ad, 64, R, Z) q64 q65 q66 q67 q68 q69 q70 q71 q72 q73 q74 q75 q76 q77 q78).2.2.1 72 = fun k => (rt 0 72 k).map (Sref (ad, 64, R, Z) q64 q65 q66 q67 q68 q69 q70 q71 q72 q73 q74 q75 q76 q77 q78).1) :=
  ⟨fun h => absurd h (by decide), fun _ => rfl, fun h => absurd (by decide) h⟩
set_option maxRecDepth 100000 in
set_option maxHeartbeats 1000000 in
theorem ag_73 {ad : Nat → Nat} {R : Nat → Nat → Option Nat} {Z : Nat → Nat} {z : Nat → Nat} {q64 q65 q66 q67 q68 q69 q70 q71 q72 q73 q74 q75 q76 q77 q78 : Nat} : (kd 73 < 10 → ∀ k, k < nf (kd 73) → ft (kd 73) k = 2 → (Sref (ad, 64, R, Z) q64 q65 q66 q67 q68 q69 q70 q71 q72 q73 q74 q75 q76 q77 q78).2.2.1 73 k = (rt 0 73 k).map (Sref (ad, 64, R, Z) q64 q65 q66 q67 q68 q69 q70 q71 q72 q73 q74 q75 q76 q77 q78).1) ∧ (¬ kd 73 < 10 → (Sref (ad, 64, R, Z) q64 q65 q66 q67 q68 q69 q70 q71 q72 q73 q74 q75 q76 q77 q78).2.2.2 73 = ln z 73) ∧ (¬ kd 73 < 12 → (Sref (ad, 64, R, Z) q64 q65 q66 q67 q68 q69 q70 q71 q72 q73 q74 q75 q76 q77 q78).2.2.1 73 = fun k => (rt 0 73 k).map (Sref (ad, 64, R, Z) q64 q65 q66 q67 q68 q69 q70 q71 q72 q73 q74 q75 q76 q77 q78).1) :=
  ⟨fun h => absurd h (by decide), fun _ => rfl, fun h => absurd (by decide) h⟩
set_option maxRecDepth 100000 in
set_option maxHeartbeats 1000000 in
theorem ag_74 {ad : Nat → Nat} {R : Nat → Nat → Option Nat} {Z : Nat → Nat} {z : Nat → Nat} {q64 q65 q66 q67 q68 q69 q70 q71 q72 q73 q74 q75 q76 q77 q78 : Nat} : (kd 74 < 10 → ∀ k, k < nf (kd 74) → ft (kd 74) k = 2 → (Sref (ad, 64, R, Z) q64 q65 q66 q67 q68 q69 q70 q71 q72 q73 q74 q75 q76 q77 q78).2.2.1 74 k = (rt 0 74 k).map (Sref (ad, 64, R, Z) q64 q65 q66 q67 q68 q69 q70 q71 q72 q73 q74 q75 q76 q77 q78).1) ∧ (¬ kd 74 < 10 → (Sref (ad, 64, R, Z) q64 q65 q66 q67 q68 q69 q70 q71 q72 q73 q74 q75 q76 q77 q78).2.2.2 74 = ln z 74) ∧ (¬ kd 74 < 12 → (Sref (ad, 64, R, Z) q64 q65 q66 q67 q68 q69 q70 q71 q72 q73 q74 q75 q76 q77 q78).2.2.1 74 = fun k => (rt 0 74 k).map (Sref (ad, 64, R, Z) q64 q65 q66 q67 q68 q69 q70 q71 q72 q73 q74 q75 q76 q77 q78).1) :=
  ⟨fun h => absurd h (by decide), fun _ => rfl, fun h => absurd (by decide) h⟩
set_option maxRecDepth 100000 in
set_option maxHeartbeats 1000000 in
theorem ag_75 {ad : Nat → Nat} {R : Nat → Nat → Option Nat} {Z : Nat → Nat} {z : Nat → Nat} {q64 q65 q66 q67 q68 q69 q70 q71 q72 q73 q74 q75 q76 q77 q78 : Nat} : (kd 75 < 10 → ∀ k, k < nf (kd 75) → ft (kd 75) k = 2 → (Sref (ad, 64, R, Z) q64 q65 q66 q67 q68 q69 q70 q71 q72 q73 q74 q75 q76 q77 q78).2.2.1 75 k = (rt 0 75 k).map (Sref (ad, 64, R, Z) q64 q65 q66 q67 q68 q69 q70 q71 q72 q73 q74 q75 q76 q77 q78).1) ∧ (¬ kd 75 < 10 → (Sref (ad, 64, R, Z) q64 q65 q66 q67 q68 q69 q70 q71 q72 q73 q74 q75 q76 q77 q78).2.2.2 75 = ln z 75) ∧ (¬ kd 75 < 12 → (Sref (ad, 64, R, Z) q64 q65 q66 q67 q68 q69 q70 q71 q72 q73 q74 q75 q76 q77 q78).2.2.1 75 = fun k => (rt 0 75 k).map (Sref (ad, 64, R, Z) q64 q65 q66 q67 q68 q69 q70 q71 q72 q73 q74 q75 q76 q77 q78).1) :=
  ⟨fun h => absurd h (by decide), fun _ => rfl, fun h => absurd (by decide) h⟩
set_option maxRecDepth 100000 in
set_option maxHeartbeats 1000000 in
theorem ag_76 {ad : Nat → Nat} {R : Nat → Nat → Option Nat} {Z : Nat → Nat} {z : Nat → Nat} {q64 q65 q66 q67 q68 q69 q70 q71 q72 q73 q74 q75 q76 q77 q78 : Nat} : (kd 76 < 10 → ∀ k, k < nf (kd 76) → ft (kd 76) k = 2 → (Sref (ad, 64, R, Z) q64 q65 q66 q67 q68 q69 q70 q71 q72 q73 q74 q75 q76 q77 q78).2.2.1 76 k = (rt 0 76 k).map (Sref (ad, 64, R, Z) q64 q65 q66 q67 q68 q69 q70 q71 q72 q73 q74 q75 q76 q77 q78).1) ∧ (¬ kd 76 < 10 → (Sref (ad, 64, R, Z) q64 q65 q66 q67 q68 q69 q70 q71 q72 q73 q74 q75 q76 q77 q78).2.2.2 76 = ln z 76) ∧ (¬ kd 76 < 12 → (Sref (ad, 64, R, Z) q64 q65 q66 q67 q68 q69 q70 q71 q72 q73 q74 q75 q76 q77 q78).2.2.1 76 = fun k => (rt 0 76 k).map (Sref (ad, 64, R, Z) q64 q65 q66 q67 q68 q69 q70 q71 q72 q73 q74 q75 q76 q77 q78).1) :=
  ⟨fun h => absurd h (by decide), fun _ => rfl, fun h => absurd (by decide) h⟩
set_option maxRecDepth 100000 in
set_option maxHeartbeats 1000000 in
theorem ag_77 {ad : Nat → Nat} {R : Nat → Nat → Option Nat} {Z : Nat → Nat} {z : Nat → Nat} {q64 q65 q66 q67 q68 q69 q70 q71 q72 q73 q74 q75 q76 q77 q78 : Nat} : (kd 77 < 10 → ∀ k, k < nf (kd 77) → ft (kd 77) k = 2 → (Sref (ad, 64, R, Z) q64 q65 q66 q67 q68 q69 q70 q71 q72 q73 q74 q75 q76 q77 q78).2.2.1 77 k = (rt 0 77 k).map (Sref (ad, 64, R, Z) q64 q65 q66 q67 q68 q69 q70 q71 q72 q73 q74 q75 q76 q77 q78).1) ∧ (¬ kd 77 < 10 → (Sref (ad, 64, R, Z) q64 q65 q66 q67 q68 q69 q70 q71 q72 q73 q74 q75 q76 q77 q78).2.2.2 77 = ln z 77) ∧ (¬ kd 77 < 12 → (Sref (ad, 64, R, Z) q64 q65 q66 q67 q68 q69 q70 q71 q72 q73 q74 q75 q76 q77 q78).2.2.1 77 = fun k => (rt 0 77 k).map (Sref (ad, 64, R, Z) q64 q65 q66 q67 q68 q69 q70 q71 q72 q73 q74 q75 q76 q77 q78).1) :=
  ⟨fun h => absurd h (by decide), fun _ => rfl, fun h => absurd (by decide) h⟩
set_option maxRecDepth 100000 in
set_option maxHeartbeats 1000000 in
theorem ag_78 {ad : Nat → Nat} {R : Nat → Nat → Option Nat} {Z : Nat → Nat} {z : Nat → Nat} {q64 q65 q66 q67 q68 q69 q70 q71 q72 q73 q74 q75 q76 q77 q78 : Nat} : (kd 78 < 10 → ∀ k, k < nf (kd 78) → ft (kd 78) k = 2 → (Sref (ad, 64, R, Z) q64 q65 q66 q67 q68 q69 q70 q71 q72 q73 q74 q75 q76 q77 q78).2.2.1 78 k = (rt 0 78 k).map (Sref (ad, 64, R, Z) q64 q65 q66 q67 q68 q69 q70 q71 q72 q73 q74 q75 q76 q77 q78).1) ∧ (¬ kd 78 < 10 → (Sref (ad, 64, R, Z) q64 q65 q66 q67 q68 q69 q70 q71 q72 q73 q74 q75 q76 q77 q78).2.2.2 78 = ln z 78) ∧ (¬ kd 78 < 12 → (Sref (ad, 64, R, Z) q64 q65 q66 q67 q68 q69 q70 q71 q72 q73 q74 q75 q76 q77 q78).2.2.1 78 = fun k => (rt 0 78 k).map (Sref (ad, 64, R, Z) q64 q65 q66 q67 q68 q69 q70 q71 q72 q73 q74 q75 q76 q77 q78).1) :=
  ⟨fun h => absurd h (by decide), fun _ => rfl, fun h => absurd (by decide) h⟩
theorem rt_lt63 {a k i : Nat} (ha : a < 63) (h : rt 0 a k = some i) : i < 63 := by
  have hh : ∀ a, a < 63 → ∀ k, k < 40 → (rt 0 a k).all (fun i => decide (i < 63)) = true := by decide +kernel
  have hk : k < 40 := by
    rcases Nat.lt_or_ge k 40 with q | q
    · exact q
    · exfalso
      unfold rt at h
      by_cases h34 : a = 34
      · rw [if_pos h34, if_neg (by omega)] at h; cases h
      · rw [if_neg h34, if_pos (by omega), List.getD, List.getElem?_eq_none (Nat.le_trans (rtL_short a (by omega)) q)] at h; cases h
  have := hh a ha k hk
  rw [h] at this
  exact of_decide_eq_true this
/-- what lies below 63 lies as before behind sixteen cells more -/
theorem Sref_old {ad : Nat → Nat} {R : Nat → Nat → Option Nat} {Z : Nat → Nat} {q64 q65 q66 q67 q68 q69 q70 q71 q72 q73 q74 q75 q76 q77 q78 : Nat} : ∀ a, a < 63 → (Sref (ad, 64, R, Z) q64 q65 q66 q67 q68 q69 q70 q71 q72 q73 q74 q75 q76 q77 q78).2.2.1 a = R a ∧ (Sref (ad, 64, R, Z) q64 q65 q66 q67 q68 q69 q70 q71 q72 q73 q74 q75 q76 q77 q78).2.2.2 a = Z a ∧ (Sref (ad, 64, R, Z) q64 q65 q66 q67 q68 q69 q70 q71 q72 q73 q74 q75 q76 q77 q78).1 a = ad a := by
  intro a ha
  have h63 : a ≠ 63 := by omega
  refine ⟨?_, ?_, ?_⟩
  · show (Sref (ad, 64, R, Z) q64 q65 q66 q67 q68 q69 q70 q71 q72 q73 q74 q75 q76 q77 q78).2.2.1 a = R a
    simp only [Sref, pR, nS]
    repeat rw [va_up_ne _ _ (by omega)]
  · simp only [Sref, pR, nS]
    repeat rw [va_up_ne _ _ (by omega)]
  · simp only [Sref, pR, nS]
    repeat rw [va_up_ne _ _ (by omega)]
theorem ag_ref {ad : Nat → Nat} {R : Nat → Nat → Option Nat} {Z : Nat → Nat} {z : Nat → Nat} (h : Agr 63 (ad, 64, R, Z) z) {q64 q65 q66 q67 q68 q69 q70 q71 q72 q73 q74 q75 q76 q77 q78 : Nat} : Agr 79 (Sref (ad, 64, R, Z) q64 q65 q66 q67 q68 q69 q70 q71 q72 q73 q74 q75 q76 q77 q78) z := by
  intro a ha
  by_cases h63 : a < 63
  · obtain ⟨o1, o2, o3⟩ := Sref_old (ad := ad) (R := R) (Z := Z)  (q64 := q64) (q65 := q65) (q66 := q66) (q67 := q67) (q68 := q68) (q69 := q69) (q70 := q70) (q71 := q71) (q72 := q72) (q73 := q73) (q74 := q74) (q75 := q75) (q76 := q76) (q77 := q77) (q78 := q78) a h63
    obtain ⟨g1, g2, g3⟩ := h a h63
    have adj : ∀ k, (rt 0 a k).map ad = (rt 0 a k).map (Sref (ad, 64, R, Z) q64 q65 q66 q67 q68 q69 q70 q71 q72 q73 q74 q75 q76 q77 q78).1 := by
      intro k
      cases hk : rt 0 a k with
      | none => rfl
      | some i => rw [Option.map_some, Option.map_some, (Sref_old i (rt_lt63 h63 hk)).2.2]
    refine ⟨fun h1 k hk ht => ?_, fun h1 => ?_, fun h1 => ?_⟩
    · rw [o1, ← adj k]; exact g1 h1 k hk ht
    · rw [o2]; exact g2 h1
    · rw [o1]; funext k; rw [← adj k]; exact congrFun (g3 h1) k
  · match a, ha, h63 with
    | 63, _, _ => exact ag_63
    | 64, _, _ => exact ag_64
    | 65, _, _ => exact ag_65
    | 66, _, _ => exact ag_66
    | 67, _, _ => exact ag_67
    | 68, _, _ => exact ag_68
    | 69, _, _ => exact ag_69
    | 70, _, _ => exact ag_70
    | 71, _, _ => exact ag_71
    | 72, _, _ => exact ag_72
    | 73, _, _ => exact ag_73
    | 74, _, _ => exact ag_74
    | 75, _, _ => exact ag_75
    | 76, _, _ => exact ag_76
    | 77, _, _ => exact ag_77
    | 78, _, _ => exact ag_78
    | a + 79, h, _ => exact absurd h (by omega)
theorem agr_world {σ : St} {z : Nat → Nat} {μ : Mem} (hN : σ.2.1 = 79) (h : Agr 79 σ z) (G : GG) : wW G σ μ = wW G (sg σ.1 0 z) μ := by
  refine wW_eq hN (fun _ _ => rfl) (fun a ha => ?_)
  rw [hN] at ha
  obtain ⟨g1, g2, g3⟩ := h a ha
  exact wE_eq g1 g2 g3
set_option maxRecDepth 100000 in
set_option maxHeartbeats 4000000 in
theorem c_X10_init {l : Launch} {G : GG} {b : Nat} {σ : St} {z : Nat → Nat} (hN : σ.2.1 = 64) (hAg : Agr 63 σ z) {m0 m9 : Mem} (hf : X10_init_129 (Mref m0) = some m9) : MtV l yX10_init cX10_init 1 none rmX10_init G b σ m0 [.ref (σ.1 63)] (fun σ' m' => ∃ ad' : Nat → Nat, (∀ i, i < 64 → ad' i = σ.1 i) ∧ σ' = sg ad' 0 z ∧ m' = m9) := by
  obtain ⟨ad, N, R, Z⟩ := σ
  have hN : N = 64 := hN
  subst hN
  refine mtV_of (by decide) (Nat.le_of_ble_eq_true rfl) rfl (fun Γ hG X hnm hr => ?_)
  show Go Γ b (ad, 64, R, Z) 0 0 0 [(0, .ref (ad 63))] [] m0
  refine g_aload_n X 0 dX10_init_0 rfl rfl ?_
  refine g_oinit X dX10_init_1 q_ml_X10_7 q_im_objectInit q_co_objectInit (by decide) (Nat.le_of_ble_eq_true rfl) ?_
  refine g_aload_n X 0 dX10_init_4 rfl rfl ?_
  refine g_sipush X (v := 960) dX10_init_5 (by decide) ?_
  refine g_newaI X (N := 960) dX10_init_8 q_ac_int rfl (by decide) (by decide) (by decide) (Nat.le_of_ble_eq_true rfl) (Nat.le_of_ble_eq_true rfl) (fun q64 => ?_)
  refine g_putRF X (v := some q64) (tyf := tyX10) 63 9 1 dX10_init_10 (Nat.le_of_ble_eq_true rfl) rfl (by decide) rfl iw_X10 (by decide) rfl q_fl_X10_13 tyX10_ok nmX10 rfl rfl rfl hnm rfl ?_
  refine g_aload_n X 0 dX10_init_13 rfl rfl ?_
  refine g_bipush X (v := 6) dX10_init_14 (by decide) ?_
  refine g_newaI X (N := 6) dX10_init_16 q_ac_int rfl (by decide) (by decide) (by decide) (Nat.le_of_ble_eq_true rfl) (Nat.le_of_ble_eq_true rfl) (fun q65 => ?_)
  refine g_putRF X (v := some q65) (tyf := tyX10) 63 9 2 dX10_init_18 (Nat.le_of_ble_eq_true rfl) rfl (by decide) rfl iw_X10 (by decide) rfl q_fl_X10_17 tyX10_ok nmX10 rfl rfl rfl hnm rfl ?_
  refine g_aload_n X 0 dX10_init_21 rfl rfl ?_
  refine g_sipush X (v := 160) dX10_init_22 (by decide) ?_
  refine g_newaI X (N := 160) dX10_init_25 q_ac_int rfl (by decide) (by decide) (by decide) (Nat.le_of_ble_eq_true rfl) (Nat.le_of_ble_eq_true rfl) (fun q66 => ?_)
  refine g_putRF X (v := some q66) (tyf := tyX10) 63 9 5 dX10_init_27 (Nat.le_of_ble_eq_true rfl) rfl (by decide) rfl iw_X10 (by decide) rfl q_fl_X10_20 tyX10_ok nmX10 rfl rfl rfl hnm rfl ?_
  refine g_aload_n X 0 dX10_init_30 rfl rfl ?_
  refine g_bipush X (v := 64) dX10_init_31 (by decide) ?_
  refine g_newaI X (N := 64) dX10_init_33 q_ac_int rfl (by decide) (by decide) (by decide) (Nat.le_of_ble_eq_true rfl) (Nat.le_of_ble_eq_true rfl) (fun q67 => ?_)
  refine g_putRF X (v := some q67) (tyf := tyX10) 63 9 8 dX10_init_35 (Nat.le_of_ble_eq_true rfl) rfl (by decide) rfl iw_X10 (by decide) rfl q_fl_X10_23 tyX10_ok nmX10 rfl rfl rfl hnm rfl ?_
  refine g_aload_n X 0 dX10_init_38 rfl rfl ?_
  refine g_bipush X (v := 6) dX10_init_39 (by decide) ?_
  refine g_newaI X (N := 6) dX10_init_41 q_ac_int rfl (by decide) (by decide) (by decide) (Nat.le_of_ble_eq_true rfl) (Nat.le_of_ble_eq_true rfl) (fun q68 => ?_)
  refine g_putRF X (v := some q68) (tyf := tyX10) 63 9 9 dX10_init_43 (Nat.le_of_ble_eq_true rfl) rfl (by decide) rfl iw_X10 (by decide) rfl q_fl_X10_26 tyX10_ok nmX10 rfl rfl rfl hnm rfl ?_
  refine g_aload_n X 0 dX10_init_46 rfl rfl ?_
  refine g_bipush X (v := 30) dX10_init_47 (by decide) ?_
  refine g_newaI X (N := 30) dX10_init_49 q_ac_int rfl (by decide) (by decide) (by decide) (Nat.le_of_ble_eq_true rfl) (Nat.le_of_ble_eq_true rfl) (fun q69 => ?_)
  refine g_putRF X (v := some q69) (tyf := tyX10) 63 9 10 dX10_init_51 (Nat.le_of_ble_eq_true rfl) rfl (by decide) rfl iw_X10 (by decide) rfl q_fl_X10_29 tyX10_ok nmX10 rfl rfl rfl hnm rfl ?_
  refine g_aload_n X 0 dX10_init_54 rfl rfl ?_
  refine g_bipush X (v := 64) dX10_init_55 (by decide) ?_
  refine g_newaI X (N := 64) dX10_init_57 q_ac_int rfl (by decide) (by decide) (by decide) (Nat.le_of_ble_eq_true rfl) (Nat.le_of_ble_eq_true rfl) (fun q70 => ?_)
  refine g_putRF X (v := some q70) (tyf := tyX10) 63 9 12 dX10_init_59 (Nat.le_of_ble_eq_true rfl) rfl (by decide) rfl iw_X10 (by decide) rfl q_fl_X10_32 tyX10_ok nmX10 rfl rfl rfl hnm rfl ?_
  refine g_aload_n X 0 dX10_init_62 rfl rfl ?_
  refine g_bipush X (v := 30) dX10_init_63 (by decide) ?_
  refine g_newaI X (N := 30) dX10_init_65 q_ac_int rfl (by decide) (by decide) (by decide) (Nat.le_of_ble_eq_true rfl) (Nat.le_of_ble_eq_true rfl) (fun q71 => ?_)
  refine g_putRF X (v := some q71) (tyf := tyX10) 63 9 28 dX10_init_67 (Nat.le_of_ble_eq_true rfl) rfl (by decide) rfl iw_X10 (by decide) rfl q_fl_X10_35 tyX10_ok nmX10 rfl rfl rfl hnm rfl ?_
  refine g_aload_n X 0 dX10_init_70 rfl rfl ?_
  refine g_bipush X (v := 8) dX10_init_71 (by decide) ?_
  refine g_newaI X (N := 8) dX10_init_73 q_ac_int rfl (by decide) (by decide) (by decide) (Nat.le_of_ble_eq_true rfl) (Nat.le_of_ble_eq_true rfl) (fun q72 => ?_)
  refine g_putRF X (v := some q72) (tyf := tyX10) 63 9 30 dX10_init_75 (Nat.le_of_ble_eq_true rfl) rfl (by decide) rfl iw_X10 (by decide) rfl q_fl_X10_38 tyX10_ok nmX10 rfl rfl rfl hnm rfl ?_
  refine g_aload_n X 0 dX10_init_78 rfl rfl ?_
  refine g_bipush X (v := 64) dX10_init_79 (by decide) ?_
  refine g_newaI X (N := 64) dX10_init_81 q_ac_int rfl (by decide) (by decide) (by decide) (Nat.le_of_ble_eq_true rfl) (Nat.le_of_ble_eq_true rfl) (fun q73 => ?_)
  refine g_putRF X (v := some q73) (tyf := tyX10) 63 9 31 dX10_init_83 (Nat.le_of_ble_eq_true rfl) rfl (by decide) rfl iw_X10 (by decide) rfl q_fl_X10_41 tyX10_ok nmX10 rfl rfl rfl hnm rfl ?_
  refine g_aload_n X 0 dX10_init_86 rfl rfl ?_
  refine g_bipush X (v := 30) dX10_init_87 (by decide) ?_
  refine g_newaI X (N := 30) dX10_init_89 q_ac_int rfl (by decide) (by decide) (by decide) (Nat.le_of_ble_eq_true rfl) (Nat.le_of_ble_eq_true rfl) (fun q74 => ?_)
  refine g_putRF X (v := some q74) (tyf := tyX10) 63 9 32 dX10_init_91 (Nat.le_of_ble_eq_true rfl) rfl (by decide) rfl iw_X10 (by decide) rfl q_fl_X10_44 tyX10_ok nmX10 rfl rfl rfl hnm rfl ?_
  refine g_aload_n X 0 dX10_init_94 rfl rfl ?_
  refine g_iconst X (v := -1) dX10_init_95 (by decide) ?_
  refine g_putI X (tyf := tyX10) 63 9 33 dX10_init_96 (Nat.le_of_ble_eq_true rfl) rfl (by decide) rfl iw_X10 (by decide) rfl q_fl_X10_47 tyX10_ok nmX10 rfl rfl rfl ?_
  refine g_aload_n X 0 dX10_init_99 rfl rfl ?_
  refine g_iconst X (v := 4) dX10_init_100 (by decide) ?_
  refine g_newaZ X (N := 4) dX10_init_101 q_ac_boolean rfl (by decide) (by decide) (by decide) (Nat.le_of_ble_eq_true rfl) (Nat.le_of_ble_eq_true rfl) (fun q75 => ?_)
  refine g_putRF X (v := some q75) (tyf := tyX10) 63 9 36 dX10_init_103 (Nat.le_of_ble_eq_true rfl) rfl (by decide) rfl iw_X10 (by decide) rfl q_fl_X10_50 tyX10_ok nmX10 rfl rfl rfl hnm rfl ?_
  refine g_aload_n X 0 dX10_init_106 rfl rfl ?_
  refine g_iconst X (v := 4) dX10_init_107 (by decide) ?_
  refine g_newaI X (N := 4) dX10_init_108 q_ac_int rfl (by decide) (by decide) (by decide) (Nat.le_of_ble_eq_true rfl) (Nat.le_of_ble_eq_true rfl) (fun q76 => ?_)
  refine g_putRF X (v := some q76) (tyf := tyX10) 63 9 37 dX10_init_110 (Nat.le_of_ble_eq_true rfl) rfl (by decide) rfl iw_X10 (by decide) rfl q_fl_X10_54 tyX10_ok nmX10 rfl rfl rfl hnm rfl ?_
  refine g_aload_n X 0 dX10_init_113 rfl rfl ?_
  refine g_iconst X (v := 4) dX10_init_114 (by decide) ?_
  refine g_newaI X (N := 4) dX10_init_115 q_ac_int rfl (by decide) (by decide) (by decide) (Nat.le_of_ble_eq_true rfl) (Nat.le_of_ble_eq_true rfl) (fun q77 => ?_)
  refine g_putRF X (v := some q77) (tyf := tyX10) 63 9 38 dX10_init_117 (Nat.le_of_ble_eq_true rfl) rfl (by decide) rfl iw_X10 (by decide) rfl q_fl_X10_57 tyX10_ok nmX10 rfl rfl rfl hnm rfl ?_
  refine g_aload_n X 0 dX10_init_120 rfl rfl ?_
  refine g_sipush X (v := 160) dX10_init_121 (by decide) ?_
  refine g_newaI X (N := 160) dX10_init_124 q_ac_int rfl (by decide) (by decide) (by decide) (Nat.le_of_ble_eq_true rfl) (Nat.le_of_ble_eq_true rfl) (fun q78 => ?_)
  refine g_putRF X (v := some q78) (tyf := tyX10) 63 9 39 dX10_init_126 (Nat.le_of_ble_eq_true rfl) rfl (by decide) rfl iw_X10 (by decide) rfl q_fl_X10_60 tyX10_ok nmX10 rfl rfl rfl hnm rfl ?_
  refine g_absM (ν := Mref m0) rfl ?_
  refine g_cong (σ := Sref (ad, 64, R, Z) q64 q65 q66 q67 q68 q69 q70 q71 q72 q73 q74 q75 q76 q77 q78) (τ := sg (Sref (ad, 64, R, Z) q64 q65 q66 q67 q68 q69 q70 q71 q72 q73 q74 q75 q76 q77 q78).1 0 z) (agr_world rfl (ag_ref hAg)) ?_
  have key := w_X10_init_129 (ad := (Sref (ad, 64, R, Z) q64 q65 q66 q67 q68 q69 q70 q71 q72 q73 q74 q75 q76 q77 q78).1) (nt := 0) (z := z) X (fun pc lv d => hr pc lv _ _ d ⟨_, fun i hi => by
      rcases (show i < 63 ∨ i = 63 by omega) with h | rfl
      · exact (Sref_old i h).2.2
      · rfl, rfl, rfl⟩) (Mref m0) hf
  exact key
