def SX4_init_1 (σ : St) (q2 : Nat) (q3 : Nat) (q4 : Nat) : St := pR (nS (pR (nS (pR (nS ((σ.1, 2, σ.2.2.1, σ.2.2.2)) q2 64) 1 0 (some q2)) q3 64) 1 1 (some q3)) q4 8) 1 2 (some q4)
def MX4_init_1 (m0 : Mem) : Mem := pI (pI (nM (nM (nM m0 2) 3) 4) 1 3 (0 : Int32)) 1 4 (0 : Int32)
abbrev rmX4_init_1 : Room := { frames := 1, cells := 3, slots := 136, locals := 60 }
set_option maxRecDepth 100000 in
set_option maxHeartbeats 4000000 in
theorem c_X4_init_1 {l : Launch} {G : GG} {b : Nat} {ad : Nat → Nat} {R : Nat → Nat → Option Nat} {Z : Nat → Nat} {m0 : Mem} : MtV l yX4_init cX4_init 1 none rmX4_init_1 G b (ad, 2, R, Z) m0 [.ref (ad 1)] (fun σ' m' => ∃ q2 q3 q4 : Nat, σ' = SX4_init_1 (ad, 2, R, Z) q2 q3 q4 ∧ m' = MX4_init_1 m0) := by
  refine mtV_of (by decide) (Nat.le_of_ble_eq_true rfl) rfl (fun Γ hG X hnm hr => ?_)
  show Go Γ b (ad, 2, R, Z) 0 0 0 [(0, .ref (ad 1))] [] m0
  refine g_aload_n X 0 dX4_init_0 rfl rfl ?_
  refine g_oinit X dX4_init_1 q_ml_X4_3 q_im_objectInit q_co_objectInit (by decide) (Nat.le_of_ble_eq_true rfl) ?_
  refine g_aload_n X 0 dX4_init_4 rfl rfl ?_
  refine g_bipush X (v := 64) dX4_init_5 (by decide) ?_
  refine g_newaI X (N := 64) dX4_init_7 q_ac_int rfl (by decide) (by decide) (by decide) (Nat.le_of_ble_eq_true rfl) (Nat.le_of_ble_eq_true rfl) (fun q2 => ?_)
  refine g_putRF X (v := some q2) (tyf := tyX4) 1 3 0 dX4_init_9 (Nat.le_of_ble_eq_true rfl) rfl (by decide) rfl iw_X4 (by decide) rfl q_fl_X4_9 tyX4_ok nmX4 rfl rfl rfl hnm rfl ?_
  refine g_aload_n X 0 dX4_init_12 rfl rfl ?_
  refine g_bipush X (v := 64) dX4_init_13 (by decide) ?_
  refine g_newaI X (N := 64) dX4_init_15 q_ac_int rfl (by decide) (by decide) (by decide) (Nat.le_of_ble_eq_true rfl) (Nat.le_of_ble_eq_true rfl) (fun q3 => ?_)
  refine g_putRF X (v := some q3) (tyf := tyX4) 1 3 1 dX4_init_17 (Nat.le_of_ble_eq_true rfl) rfl (by decide) rfl iw_X4 (by decide) rfl q_fl_X4_15 tyX4_ok nmX4 rfl rfl rfl hnm rfl ?_
  refine g_aload_n X 0 dX4_init_20 rfl rfl ?_
  refine g_bipush X (v := 8) dX4_init_21 (by decide) ?_
  refine g_newaI X (N := 8) dX4_init_23 q_ac_int rfl (by decide) (by decide) (by decide) (Nat.le_of_ble_eq_true rfl) (Nat.le_of_ble_eq_true rfl) (fun q4 => ?_)
  refine g_putRF X (v := some q4) (tyf := tyX4) 1 3 2 dX4_init_25 (Nat.le_of_ble_eq_true rfl) rfl (by decide) rfl iw_X4 (by decide) rfl q_fl_X4_18 tyX4_ok nmX4 rfl rfl rfl hnm rfl ?_
  refine g_aload_n X 0 dX4_init_28 rfl rfl ?_
  refine g_iconst X (v := 0) dX4_init_29 (by decide) ?_
  refine g_putI X (tyf := tyX4) 1 3 3 dX4_init_30 (Nat.le_of_ble_eq_true rfl) rfl (by decide) rfl iw_X4 (by decide) rfl q_fl_X4_21 tyX4_ok nmX4 rfl rfl rfl ?_
  refine g_aload_n X 0 dX4_init_33 rfl rfl ?_
  refine g_iconst X (v := 0) dX4_init_34 (by decide) ?_
  refine g_putI X (tyf := tyX4) 1 3 4 dX4_init_35 (Nat.le_of_ble_eq_true rfl) rfl (by decide) rfl iw_X4 (by decide) rfl q_fl_X4_25 tyX4_ok nmX4 rfl rfl rfl ?_
  exact hr 38 _ _ _ dX4_init_38 ⟨q2, q3, q4, rfl, rfl⟩
theorem c_X4_init_1_g {l : Launch} {G : GG} {b : Nat} {σ : St} {m0 : Mem} (hN : σ.2.1 = 2) : MtV l yX4_init cX4_init 1 none rmX4_init_1 G b σ m0 [.ref (σ.1 1)] (fun σ' m' => ∃ q2 q3 q4 : Nat, σ' = SX4_init_1 σ q2 q3 q4 ∧ m' = MX4_init_1 m0) := by
  obtain ⟨ad, N, R, Z⟩ := σ
  have hN : N = 2 := hN
  subst hN
  exact c_X4_init_1
def SX4_init_12 (σ : St) (q13 : Nat) (q14 : Nat) (q15 : Nat) : St := pR (nS (pR (nS (pR (nS ((σ.1, 13, σ.2.2.1, σ.2.2.2)) q13 64) 12 0 (some q13)) q14 64) 12 1 (some q14)) q15 8) 12 2 (some q15)
def MX4_init_12 (m0 : Mem) : Mem := pI (pI (nM (nM (nM m0 13) 14) 15) 12 3 (0 : Int32)) 12 4 (0 : Int32)
abbrev rmX4_init_12 : Room := { frames := 1, cells := 3, slots := 136, locals := 60 }
set_option maxRecDepth 100000 in
set_option maxHeartbeats 4000000 in
theorem c_X4_init_12 {l : Launch} {G : GG} {b : Nat} {ad : Nat → Nat} {R : Nat → Nat → Option Nat} {Z : Nat → Nat} {m0 : Mem} : MtV l yX4_init cX4_init 1 none rmX4_init_12 G b (ad, 13, R, Z) m0 [.ref (ad 12)] (fun σ' m' => ∃ q13 q14 q15 : Nat, σ' = SX4_init_12 (ad, 13, R, Z) q13 q14 q15 ∧ m' = MX4_init_12 m0) := by
  refine mtV_of (by decide) (Nat.le_of_ble_eq_true rfl) rfl (fun Γ hG X hnm hr => ?_)
  show Go Γ b (ad, 13, R, Z) 0 0 0 [(0, .ref (ad 12))] [] m0
  refine g_aload_n X 0 dX4_init_0 rfl rfl ?_
  refine g_oinit X dX4_init_1 q_ml_X4_3 q_im_objectInit q_co_objectInit (by decide) (Nat.le_of_ble_eq_true rfl) ?_
  refine g_aload_n X 0 dX4_init_4 rfl rfl ?_
  refine g_bipush X (v := 64) dX4_init_5 (by decide) ?_
  refine g_newaI X (N := 64) dX4_init_7 q_ac_int rfl (by decide) (by decide) (by decide) (Nat.le_of_ble_eq_true rfl) (Nat.le_of_ble_eq_true rfl) (fun q13 => ?_)
  refine g_putRF X (v := some q13) (tyf := tyX4) 12 3 0 dX4_init_9 (Nat.le_of_ble_eq_true rfl) rfl (by decide) rfl iw_X4 (by decide) rfl q_fl_X4_9 tyX4_ok nmX4 rfl rfl rfl hnm rfl ?_
  refine g_aload_n X 0 dX4_init_12 rfl rfl ?_
  refine g_bipush X (v := 64) dX4_init_13 (by decide) ?_
  refine g_newaI X (N := 64) dX4_init_15 q_ac_int rfl (by decide) (by decide) (by decide) (Nat.le_of_ble_eq_true rfl) (Nat.le_of_ble_eq_true rfl) (fun q14 => ?_)
  refine g_putRF X (v := some q14) (tyf := tyX4) 12 3 1 dX4_init_17 (Nat.le_of_ble_eq_true rfl) rfl (by decide) rfl iw_X4 (by decide) rfl q_fl_X4_15 tyX4_ok nmX4 rfl rfl rfl hnm rfl ?_
  refine g_aload_n X 0 dX4_init_20 rfl rfl ?_
  refine g_bipush X (v := 8) dX4_init_21 (by decide) ?_
  refine g_newaI X (N := 8) dX4_init_23 q_ac_int rfl (by decide) (by decide) (by decide) (Nat.le_of_ble_eq_true rfl) (Nat.le_of_ble_eq_true rfl) (fun q15 => ?_)
  refine g_putRF X (v := some q15) (tyf := tyX4) 12 3 2 dX4_init_25 (Nat.le_of_ble_eq_true rfl) rfl (by decide) rfl iw_X4 (by decide) rfl q_fl_X4_18 tyX4_ok nmX4 rfl rfl rfl hnm rfl ?_
  refine g_aload_n X 0 dX4_init_28 rfl rfl ?_
  refine g_iconst X (v := 0) dX4_init_29 (by decide) ?_
  refine g_putI X (tyf := tyX4) 12 3 3 dX4_init_30 (Nat.le_of_ble_eq_true rfl) rfl (by decide) rfl iw_X4 (by decide) rfl q_fl_X4_21 tyX4_ok nmX4 rfl rfl rfl ?_
  refine g_aload_n X 0 dX4_init_33 rfl rfl ?_
  refine g_iconst X (v := 0) dX4_init_34 (by decide) ?_
  refine g_putI X (tyf := tyX4) 12 3 4 dX4_init_35 (Nat.le_of_ble_eq_true rfl) rfl (by decide) rfl iw_X4 (by decide) rfl q_fl_X4_25 tyX4_ok nmX4 rfl rfl rfl ?_
  exact hr 38 _ _ _ dX4_init_38 ⟨q13, q14, q15, rfl, rfl⟩
theorem c_X4_init_12_g {l : Launch} {G : GG} {b : Nat} {σ : St} {m0 : Mem} (hN : σ.2.1 = 13) : MtV l yX4_init cX4_init 1 none rmX4_init_12 G b σ m0 [.ref (σ.1 12)] (fun σ' m' => ∃ q13 q14 q15 : Nat, σ' = SX4_init_12 σ q13 q14 q15 ∧ m' = MX4_init_12 m0) := by
  obtain ⟨ad, N, R, Z⟩ := σ
  have hN : N = 13 := hN
  subst hN
  exact c_X4_init_12
def SX0_init_5 (σ : St) (q6 : Nat) (q7 : Nat) (q8 : Nat) (q9 : Nat) (q10 : Nat) (q11 : Nat) : St := pR (nS (pR (nS (pR (nS (pR (nS (pR (nS (pR (nS ((σ.1, 6, σ.2.2.1, σ.2.2.2)) q6 6) 5 3 (some q6)) q7 6) 5 4 (some q7)) q8 6) 5 5 (some q8)) q9 6) 5 6 (some q9)) q10 6) 5 7 (some q10)) q11 6) 5 8 (some q11)
def MX0_init_5 (m0 : Mem) : Mem := nM (nM (nM (nM (nM (nM (pI (pI (pI m0 5 0 (0 : Int32)) 5 1 (0 : Int32)) 5 2 (0 : Int32)) 6) 7) 8) 9) 10) 11
abbrev rmX0_init_5 : Room := { frames := 1, cells := 6, slots := 36, locals := 60 }
set_option maxRecDepth 100000 in
set_option maxHeartbeats 4000000 in
theorem c_X0_init_5 {l : Launch} {G : GG} {b : Nat} {ad : Nat → Nat} {R : Nat → Nat → Option Nat} {Z : Nat → Nat} {m0 : Mem} : MtV l yX0_init cX0_init 1 none rmX0_init_5 G b (ad, 6, R, Z) m0 [.ref (ad 5)] (fun σ' m' => ∃ q6 q7 q8 q9 q10 q11 : Nat, σ' = SX0_init_5 (ad, 6, R, Z) q6 q7 q8 q9 q10 q11 ∧ m' = MX0_init_5 m0) := by
  refine mtV_of (by decide) (Nat.le_of_ble_eq_true rfl) rfl (fun Γ hG X hnm hr => ?_)
  show Go Γ b (ad, 6, R, Z) 0 0 0 [(0, .ref (ad 5))] [] m0
  refine g_aload_n X 0 dX0_init_0 rfl rfl ?_
  refine g_oinit X dX0_init_1 q_ml_X0_3 q_im_objectInit q_co_objectInit (by decide) (Nat.le_of_ble_eq_true rfl) ?_
  refine g_aload_n X 0 dX0_init_4 rfl rfl ?_
  refine g_iconst X (v := 0) dX0_init_5 (by decide) ?_
  refine g_putI X (tyf := tyX0) 5 0 0 dX0_init_6 (Nat.le_of_ble_eq_true rfl) rfl (by decide) rfl iw_X0 (by decide) rfl q_fl_X0_9 tyX0_ok nmX0 rfl rfl rfl ?_
  refine g_aload_n X 0 dX0_init_9 rfl rfl ?_
  refine g_iconst X (v := 0) dX0_init_10 (by decide) ?_
  refine g_putI X (tyf := tyX0) 5 0 1 dX0_init_11 (Nat.le_of_ble_eq_true rfl) rfl (by decide) rfl iw_X0 (by decide) rfl q_fl_X0_15 tyX0_ok nmX0 rfl rfl rfl ?_
  refine g_aload_n X 0 dX0_init_14 rfl rfl ?_
  refine g_iconst X (v := 0) dX0_init_15 (by decide) ?_
  refine g_putI X (tyf := tyX0) 5 0 2 dX0_init_16 (Nat.le_of_ble_eq_true rfl) rfl (by decide) rfl iw_X0 (by decide) rfl q_fl_X0_18 tyX0_ok nmX0 rfl rfl rfl ?_
  refine g_aload_n X 0 dX0_init_19 rfl rfl ?_
  refine g_bipush X (v := 6) dX0_init_20 (by decide) ?_
  refine g_newaI X (N := 6) dX0_init_22 q_ac_int rfl (by decide) (by decide) (by decide) (Nat.le_of_ble_eq_true rfl) (Nat.le_of_ble_eq_true rfl) (fun q6 => ?_)
  refine g_putRF X (v := some q6) (tyf := tyX0) 5 0 3 dX0_init_24 (Nat.le_of_ble_eq_true rfl) rfl (by decide) rfl iw_X0 (by decide) rfl q_fl_X0_21 tyX0_ok nmX0 rfl rfl rfl hnm rfl ?_
  refine g_aload_n X 0 dX0_init_27 rfl rfl ?_
  refine g_bipush X (v := 6) dX0_init_28 (by decide) ?_
  refine g_newaI X (N := 6) dX0_init_30 q_ac_int rfl (by decide) (by decide) (by decide) (Nat.le_of_ble_eq_true rfl) (Nat.le_of_ble_eq_true rfl) (fun q7 => ?_)
  refine g_putRF X (v := some q7) (tyf := tyX0) 5 0 4 dX0_init_32 (Nat.le_of_ble_eq_true rfl) rfl (by decide) rfl iw_X0 (by decide) rfl q_fl_X0_25 tyX0_ok nmX0 rfl rfl rfl hnm rfl ?_
  refine g_aload_n X 0 dX0_init_35 rfl rfl ?_
  refine g_bipush X (v := 6) dX0_init_36 (by decide) ?_
  refine g_newaI X (N := 6) dX0_init_38 q_ac_int rfl (by decide) (by decide) (by decide) (Nat.le_of_ble_eq_true rfl) (Nat.le_of_ble_eq_true rfl) (fun q8 => ?_)
  refine g_putRF X (v := some q8) (tyf := tyX0) 5 0 5 dX0_init_40 (Nat.le_of_ble_eq_true rfl) rfl (by decide) rfl iw_X0 (by decide) rfl q_fl_X0_28 tyX0_ok nmX0 rfl rfl rfl hnm rfl ?_
  refine g_aload_n X 0 dX0_init_43 rfl rfl ?_
  refine g_bipush X (v := 6) dX0_init_44 (by decide) ?_
  refine g_newaI X (N := 6) dX0_init_46 q_ac_int rfl (by decide) (by decide) (by decide) (Nat.le_of_ble_eq_true rfl) (Nat.le_of_ble_eq_true rfl) (fun q9 => ?_)
  refine g_putRF X (v := some q9) (tyf := tyX0) 5 0 6 dX0_init_48 (Nat.le_of_ble_eq_true rfl) rfl (by decide) rfl iw_X0 (by decide) rfl q_fl_X0_31 tyX0_ok nmX0 rfl rfl rfl hnm rfl ?_
  refine g_aload_n X 0 dX0_init_51 rfl rfl ?_
  refine g_bipush X (v := 6) dX0_init_52 (by decide) ?_
  refine g_newaI X (N := 6) dX0_init_54 q_ac_int rfl (by decide) (by decide) (by decide) (Nat.le_of_ble_eq_true rfl) (Nat.le_of_ble_eq_true rfl) (fun q10 => ?_)
  refine g_putRF X (v := some q10) (tyf := tyX0) 5 0 7 dX0_init_56 (Nat.le_of_ble_eq_true rfl) rfl (by decide) rfl iw_X0 (by decide) rfl q_fl_X0_34 tyX0_ok nmX0 rfl rfl rfl hnm rfl ?_
  refine g_aload_n X 0 dX0_init_59 rfl rfl ?_
  refine g_bipush X (v := 6) dX0_init_60 (by decide) ?_
  refine g_newaI X (N := 6) dX0_init_62 q_ac_int rfl (by decide) (by decide) (by decide) (Nat.le_of_ble_eq_true rfl) (Nat.le_of_ble_eq_true rfl) (fun q11 => ?_)
  refine g_putRF X (v := some q11) (tyf := tyX0) 5 0 8 dX0_init_64 (Nat.le_of_ble_eq_true rfl) rfl (by decide) rfl iw_X0 (by decide) rfl q_fl_X0_37 tyX0_ok nmX0 rfl rfl rfl hnm rfl ?_
  exact hr 67 _ _ _ dX0_init_67 ⟨q6, q7, q8, q9, q10, q11, rfl, rfl⟩
theorem c_X0_init_5_g {l : Launch} {G : GG} {b : Nat} {σ : St} {m0 : Mem} (hN : σ.2.1 = 6) : MtV l yX0_init cX0_init 1 none rmX0_init_5 G b σ m0 [.ref (σ.1 5)] (fun σ' m' => ∃ q6 q7 q8 q9 q10 q11 : Nat, σ' = SX0_init_5 σ q6 q7 q8 q9 q10 q11 ∧ m' = MX0_init_5 m0) := by
  obtain ⟨ad, N, R, Z⟩ := σ
  have hN : N = 6 := hN
  subst hN
  exact c_X0_init_5
def SX0_init_16 (σ : St) (q17 : Nat) (q18 : Nat) (q19 : Nat) (q20 : Nat) (q21 : Nat) (q22 : Nat) : St := pR (nS (pR (nS (pR (nS (pR (nS (pR (nS (pR (nS ((σ.1, 17, σ.2.2.1, σ.2.2.2)) q17 6) 16 3 (some q17)) q18 6) 16 4 (some q18)) q19 6) 16 5 (some q19)) q20 6) 16 6 (some q20)) q21 6) 16 7 (some q21)) q22 6) 16 8 (some q22)
def MX0_init_16 (m0 : Mem) : Mem := nM (nM (nM (nM (nM (nM (pI (pI (pI m0 16 0 (0 : Int32)) 16 1 (0 : Int32)) 16 2 (0 : Int32)) 17) 18) 19) 20) 21) 22
abbrev rmX0_init_16 : Room := { frames := 1, cells := 6, slots := 36, locals := 60 }
set_option maxRecDepth 100000 in
set_option maxHeartbeats 4000000 in
theorem c_X0_init_16 {l : Launch} {G : GG} {b : Nat} {ad : Nat → Nat} {R : Nat → Nat → Option Nat} {Z : Nat → Nat} {m0 : Mem} : MtV l yX0_init cX0_init 1 none rmX0_init_16 G b (ad, 17, R, Z) m0 [.ref (ad 16)] (fun σ' m' => ∃ q17 q18 q19 q20 q21 q22 : Nat, σ' = SX0_init_16 (ad, 17, R, Z) q17 q18 q19 q20 q21 q22 ∧ m' = MX0_init_16 m0) := by
  refine mtV_of (by decide) (Nat.le_of_ble_eq_true rfl) rfl (fun Γ hG X hnm hr => ?_)
  show Go Γ b (ad, 17, R, Z) 0 0 0 [(0, .ref (ad 16))] [] m0
  refine g_aload_n X 0 dX0_init_0 rfl rfl ?_
  refine g_oinit X dX0_init_1 q_ml_X0_3 q_im_objectInit q_co_objectInit (by decide) (Nat.le_of_ble_eq_true rfl) ?_
  refine g_aload_n X 0 dX0_init_4 rfl rfl ?_
  refine g_iconst X (v := 0) dX0_init_5 (by decide) ?_
  refine g_putI X (tyf := tyX0) 16 0 0 dX0_init_6 (Nat.le_of_ble_eq_true rfl) rfl (by decide) rfl iw_X0 (by decide) rfl q_fl_X0_9 tyX0_ok nmX0 rfl rfl rfl ?_
  refine g_aload_n X 0 dX0_init_9 rfl rfl ?_
  refine g_iconst X (v := 0) dX0_init_10 (by decide) ?_
  refine g_putI X (tyf := tyX0) 16 0 1 dX0_init_11 (Nat.le_of_ble_eq_true rfl) rfl (by decide) rfl iw_X0 (by decide) rfl q_fl_X0_15 tyX0_ok nmX0 rfl rfl rfl ?_
  refine g_aload_n X 0 dX0_init_14 rfl rfl ?_
  refine g_iconst X (v := 0) dX0_init_15 (by decide) ?_
  refine g_putI X (tyf := tyX0) 16 0 2 dX0_init_16 (Nat.le_of_ble_eq_true rfl) rfl (by decide) rfl iw_X0 (by decide) rfl q_fl_X0_18 tyX0_ok nmX0 rfl rfl rfl ?_
  refine g_aload_n X 0 dX0_init_19 rfl rfl ?_
  refine g_bipush X (v := 6) dX0_init_20 (by decide) ?_
  refine g_newaI X (N := 6) dX0_init_22 q_ac_int rfl (by decide) (by decide) (by decide) (Nat.le_of_ble_eq_true rfl) (Nat.le_of_ble_eq_true rfl) (fun q17 => ?_)
  refine g_putRF X (v := some q17) (tyf := tyX0) 16 0 3 dX0_init_24 (Nat.le_of_ble_eq_true rfl) rfl (by decide) rfl iw_X0 (by decide) rfl q_fl_X0_21 tyX0_ok nmX0 rfl rfl rfl hnm rfl ?_
  refine g_aload_n X 0 dX0_init_27 rfl rfl ?_
  refine g_bipush X (v := 6) dX0_init_28 (by decide) ?_
  refine g_newaI X (N := 6) dX0_init_30 q_ac_int rfl (by decide) (by decide) (by decide) (Nat.le_of_ble_eq_true rfl) (Nat.le_of_ble_eq_true rfl) (fun q18 => ?_)
  refine g_putRF X (v := some q18) (tyf := tyX0) 16 0 4 dX0_init_32 (Nat.le_of_ble_eq_true rfl) rfl (by decide) rfl iw_X0 (by decide) rfl q_fl_X0_25 tyX0_ok nmX0 rfl rfl rfl hnm rfl ?_
  refine g_aload_n X 0 dX0_init_35 rfl rfl ?_
  refine g_bipush X (v := 6) dX0_init_36 (by decide) ?_
  refine g_newaI X (N := 6) dX0_init_38 q_ac_int rfl (by decide) (by decide) (by decide) (Nat.le_of_ble_eq_true rfl) (Nat.le_of_ble_eq_true rfl) (fun q19 => ?_)
  refine g_putRF X (v := some q19) (tyf := tyX0) 16 0 5 dX0_init_40 (Nat.le_of_ble_eq_true rfl) rfl (by decide) rfl iw_X0 (by decide) rfl q_fl_X0_28 tyX0_ok nmX0 rfl rfl rfl hnm rfl ?_
  refine g_aload_n X 0 dX0_init_43 rfl rfl ?_
  refine g_bipush X (v := 6) dX0_init_44 (by decide) ?_
  refine g_newaI X (N := 6) dX0_init_46 q_ac_int rfl (by decide) (by decide) (by decide) (Nat.le_of_ble_eq_true rfl) (Nat.le_of_ble_eq_true rfl) (fun q20 => ?_)
  refine g_putRF X (v := some q20) (tyf := tyX0) 16 0 6 dX0_init_48 (Nat.le_of_ble_eq_true rfl) rfl (by decide) rfl iw_X0 (by decide) rfl q_fl_X0_31 tyX0_ok nmX0 rfl rfl rfl hnm rfl ?_
  refine g_aload_n X 0 dX0_init_51 rfl rfl ?_
  refine g_bipush X (v := 6) dX0_init_52 (by decide) ?_
  refine g_newaI X (N := 6) dX0_init_54 q_ac_int rfl (by decide) (by decide) (by decide) (Nat.le_of_ble_eq_true rfl) (Nat.le_of_ble_eq_true rfl) (fun q21 => ?_)
  refine g_putRF X (v := some q21) (tyf := tyX0) 16 0 7 dX0_init_56 (Nat.le_of_ble_eq_true rfl) rfl (by decide) rfl iw_X0 (by decide) rfl q_fl_X0_34 tyX0_ok nmX0 rfl rfl rfl hnm rfl ?_
  refine g_aload_n X 0 dX0_init_59 rfl rfl ?_
  refine g_bipush X (v := 6) dX0_init_60 (by decide) ?_
  refine g_newaI X (N := 6) dX0_init_62 q_ac_int rfl (by decide) (by decide) (by decide) (Nat.le_of_ble_eq_true rfl) (Nat.le_of_ble_eq_true rfl) (fun q22 => ?_)
  refine g_putRF X (v := some q22) (tyf := tyX0) 16 0 8 dX0_init_64 (Nat.le_of_ble_eq_true rfl) rfl (by decide) rfl iw_X0 (by decide) rfl q_fl_X0_37 tyX0_ok nmX0 rfl rfl rfl hnm rfl ?_
  exact hr 67 _ _ _ dX0_init_67 ⟨q17, q18, q19, q20, q21, q22, rfl, rfl⟩
theorem c_X0_init_16_g {l : Launch} {G : GG} {b : Nat} {σ : St} {m0 : Mem} (hN : σ.2.1 = 17) : MtV l yX0_init cX0_init 1 none rmX0_init_16 G b σ m0 [.ref (σ.1 16)] (fun σ' m' => ∃ q17 q18 q19 q20 q21 q22 : Nat, σ' = SX0_init_16 σ q17 q18 q19 q20 q21 q22 ∧ m' = MX0_init_16 m0) := by
  obtain ⟨ad, N, R, Z⟩ := σ
  have hN : N = 17 := hN
  subst hN
  exact c_X0_init_16
def SX0_init_23 (σ : St) (q24 : Nat) (q25 : Nat) (q26 : Nat) (q27 : Nat) (q28 : Nat) (q29 : Nat) : St := pR (nS (pR (nS (pR (nS (pR (nS (pR (nS (pR (nS ((σ.1, 24, σ.2.2.1, σ.2.2.2)) q24 6) 23 3 (some q24)) q25 6) 23 4 (some q25)) q26 6) 23 5 (some q26)) q27 6) 23 6 (some q27)) q28 6) 23 7 (some q28)) q29 6) 23 8 (some q29)
def MX0_init_23 (m0 : Mem) : Mem := nM (nM (nM (nM (nM (nM (pI (pI (pI m0 23 0 (0 : Int32)) 23 1 (0 : Int32)) 23 2 (0 : Int32)) 24) 25) 26) 27) 28) 29
abbrev rmX0_init_23 : Room := { frames := 1, cells := 6, slots := 36, locals := 60 }
set_option maxRecDepth 100000 in
set_option maxHeartbeats 4000000 in
theorem c_X0_init_23 {l : Launch} {G : GG} {b : Nat} {ad : Nat → Nat} {R : Nat → Nat → Option Nat} {Z : Nat → Nat} {m0 : Mem} : MtV l yX0_init cX0_init 1 none rmX0_init_23 G b (ad, 24, R, Z) m0 [.ref (ad 23)] (fun σ' m' => ∃ q24 q25 q26 q27 q28 q29 : Nat, σ' = SX0_init_23 (ad, 24, R, Z) q24 q25 q26 q27 q28 q29 ∧ m' = MX0_init_23 m0) := by
  refine mtV_of (by decide) (Nat.le_of_ble_eq_true rfl) rfl (fun Γ hG X hnm hr => ?_)
  show Go Γ b (ad, 24, R, Z) 0 0 0 [(0, .ref (ad 23))] [] m0
  refine g_aload_n X 0 dX0_init_0 rfl rfl ?_
  refine g_oinit X dX0_init_1 q_ml_X0_3 q_im_objectInit q_co_objectInit (by decide) (Nat.le_of_ble_eq_true rfl) ?_
  refine g_aload_n X 0 dX0_init_4 rfl rfl ?_
  refine g_iconst X (v := 0) dX0_init_5 (by decide) ?_
  refine g_putI X (tyf := tyX0) 23 0 0 dX0_init_6 (Nat.le_of_ble_eq_true rfl) rfl (by decide) rfl iw_X0 (by decide) rfl q_fl_X0_9 tyX0_ok nmX0 rfl rfl rfl ?_
  refine g_aload_n X 0 dX0_init_9 rfl rfl ?_
  refine g_iconst X (v := 0) dX0_init_10 (by decide) ?_
  refine g_putI X (tyf := tyX0) 23 0 1 dX0_init_11 (Nat.le_of_ble_eq_true rfl) rfl (by decide) rfl iw_X0 (by decide) rfl q_fl_X0_15 tyX0_ok nmX0 rfl rfl rfl ?_
  refine g_aload_n X 0 dX0_init_14 rfl rfl ?_
  refine g_iconst X (v := 0) dX0_init_15 (by decide) ?_
  refine g_putI X (tyf := tyX0) 23 0 2 dX0_init_16 (Nat.le_of_ble_eq_true rfl) rfl (by decide) rfl iw_X0 (by decide) rfl q_fl_X0_18 tyX0_ok nmX0 rfl rfl rfl ?_
  refine g_aload_n X 0 dX0_init_19 rfl rfl ?_
  refine g_bipush X (v := 6) dX0_init_20 (by decide) ?_
  refine g_newaI X (N := 6) dX0_init_22 q_ac_int rfl (by decide) (by decide) (by decide) (Nat.le_of_ble_eq_true rfl) (Nat.le_of_ble_eq_true rfl) (fun q24 => ?_)
  refine g_putRF X (v := some q24) (tyf := tyX0) 23 0 3 dX0_init_24 (Nat.le_of_ble_eq_true rfl) rfl (by decide) rfl iw_X0 (by decide) rfl q_fl_X0_21 tyX0_ok nmX0 rfl rfl rfl hnm rfl ?_
  refine g_aload_n X 0 dX0_init_27 rfl rfl ?_
  refine g_bipush X (v := 6) dX0_init_28 (by decide) ?_
  refine g_newaI X (N := 6) dX0_init_30 q_ac_int rfl (by decide) (by decide) (by decide) (Nat.le_of_ble_eq_true rfl) (Nat.le_of_ble_eq_true rfl) (fun q25 => ?_)
  refine g_putRF X (v := some q25) (tyf := tyX0) 23 0 4 dX0_init_32 (Nat.le_of_ble_eq_true rfl) rfl (by decide) rfl iw_X0 (by decide) rfl q_fl_X0_25 tyX0_ok nmX0 rfl rfl rfl hnm rfl ?_
  refine g_aload_n X 0 dX0_init_35 rfl rfl ?_
  refine g_bipush X (v := 6) dX0_init_36 (by decide) ?_
  refine g_newaI X (N := 6) dX0_init_38 q_ac_int rfl (by decide) (by decide) (by decide) (Nat.le_of_ble_eq_true rfl) (Nat.le_of_ble_eq_true rfl) (fun q26 => ?_)
  refine g_putRF X (v := some q26) (tyf := tyX0) 23 0 5 dX0_init_40 (Nat.le_of_ble_eq_true rfl) rfl (by decide) rfl iw_X0 (by decide) rfl q_fl_X0_28 tyX0_ok nmX0 rfl rfl rfl hnm rfl ?_
  refine g_aload_n X 0 dX0_init_43 rfl rfl ?_
  refine g_bipush X (v := 6) dX0_init_44 (by decide) ?_
  refine g_newaI X (N := 6) dX0_init_46 q_ac_int rfl (by decide) (by decide) (by decide) (Nat.le_of_ble_eq_true rfl) (Nat.le_of_ble_eq_true rfl) (fun q27 => ?_)
  refine g_putRF X (v := some q27) (tyf := tyX0) 23 0 6 dX0_init_48 (Nat.le_of_ble_eq_true rfl) rfl (by decide) rfl iw_X0 (by decide) rfl q_fl_X0_31 tyX0_ok nmX0 rfl rfl rfl hnm rfl ?_
  refine g_aload_n X 0 dX0_init_51 rfl rfl ?_
  refine g_bipush X (v := 6) dX0_init_52 (by decide) ?_
  refine g_newaI X (N := 6) dX0_init_54 q_ac_int rfl (by decide) (by decide) (by decide) (Nat.le_of_ble_eq_true rfl) (Nat.le_of_ble_eq_true rfl) (fun q28 => ?_)
  refine g_putRF X (v := some q28) (tyf := tyX0) 23 0 7 dX0_init_56 (Nat.le_of_ble_eq_true rfl) rfl (by decide) rfl iw_X0 (by decide) rfl q_fl_X0_34 tyX0_ok nmX0 rfl rfl rfl hnm rfl ?_
  refine g_aload_n X 0 dX0_init_59 rfl rfl ?_
  refine g_bipush X (v := 6) dX0_init_60 (by decide) ?_
  refine g_newaI X (N := 6) dX0_init_62 q_ac_int rfl (by decide) (by decide) (by decide) (Nat.le_of_ble_eq_true rfl) (Nat.le_of_ble_eq_true rfl) (fun q29 => ?_)
  refine g_putRF X (v := some q29) (tyf := tyX0) 23 0 8 dX0_init_64 (Nat.le_of_ble_eq_true rfl) rfl (by decide) rfl iw_X0 (by decide) rfl q_fl_X0_37 tyX0_ok nmX0 rfl rfl rfl hnm rfl ?_
  exact hr 67 _ _ _ dX0_init_67 ⟨q24, q25, q26, q27, q28, q29, rfl, rfl⟩
theorem c_X0_init_23_g {l : Launch} {G : GG} {b : Nat} {σ : St} {m0 : Mem} (hN : σ.2.1 = 24) : MtV l yX0_init cX0_init 1 none rmX0_init_23 G b σ m0 [.ref (σ.1 23)] (fun σ' m' => ∃ q24 q25 q26 q27 q28 q29 : Nat, σ' = SX0_init_23 σ q24 q25 q26 q27 q28 q29 ∧ m' = MX0_init_23 m0) := by
  obtain ⟨ad, N, R, Z⟩ := σ
  have hN : N = 24 := hN
  subst hN
  exact c_X0_init_23
def SX3_init_30 (σ : St) (q31 : Nat) (q32 : Nat) : St := pR (nS (pR (nS ((σ.1, 31, σ.2.2.1, σ.2.2.2)) q31 160) 30 0 (some q31)) q32 160) 30 8 (some q32)
def MX3_init_30 (m0 : Mem) : Mem := pI (nM (pI (pI (pI (pI (pI (pI (pI (nM m0 31) 30 1 (0 : Int32)) 30 2 (-1 : Int32)) 30 3 (0 : Int32)) 30 4 (0 : Int32)) 30 5 (0 : Int32)) 30 6 (0 : Int32)) 30 7 (0 : Int32)) 32) 30 9 (0 : Int32)
abbrev rmX3_init_30 : Room := { frames := 1, cells := 2, slots := 320, locals := 60 }
set_option maxRecDepth 100000 in
set_option maxHeartbeats 4000000 in
theorem c_X3_init_30 {l : Launch} {G : GG} {b : Nat} {ad : Nat → Nat} {R : Nat → Nat → Option Nat} {Z : Nat → Nat} {m0 : Mem} : MtV l yX3_init cX3_init 1 none rmX3_init_30 G b (ad, 31, R, Z) m0 [.ref (ad 30)] (fun σ' m' => ∃ q31 q32 : Nat, σ' = SX3_init_30 (ad, 31, R, Z) q31 q32 ∧ m' = MX3_init_30 m0) := by
  refine mtV_of (by decide) (Nat.le_of_ble_eq_true rfl) rfl (fun Γ hG X hnm hr => ?_)
  show Go Γ b (ad, 31, R, Z) 0 0 0 [(0, .ref (ad 30))] [] m0
  refine g_aload_n X 0 dX3_init_0 rfl rfl ?_
  refine g_oinit X dX3_init_1 q_ml_X3_3 q_im_objectInit q_co_objectInit (by decide) (Nat.le_of_ble_eq_true rfl) ?_
  refine g_aload_n X 0 dX3_init_4 rfl rfl ?_
  refine g_sipush X (v := 160) dX3_init_5 (by decide) ?_
  refine g_newaI X (N := 160) dX3_init_8 q_ac_int rfl (by decide) (by decide) (by decide) (Nat.le_of_ble_eq_true rfl) (Nat.le_of_ble_eq_true rfl) (fun q31 => ?_)
  refine g_putRF X (v := some q31) (tyf := tyX3) 30 2 0 dX3_init_10 (Nat.le_of_ble_eq_true rfl) rfl (by decide) rfl iw_X3 (by decide) rfl q_fl_X3_9 tyX3_ok nmX3 rfl rfl rfl hnm rfl ?_
  refine g_aload_n X 0 dX3_init_13 rfl rfl ?_
  refine g_iconst X (v := 0) dX3_init_14 (by decide) ?_
  refine g_putI X (tyf := tyX3) 30 2 1 dX3_init_15 (Nat.le_of_ble_eq_true rfl) rfl (by decide) rfl iw_X3 (by decide) rfl q_fl_X3_15 tyX3_ok nmX3 rfl rfl rfl ?_
  refine g_aload_n X 0 dX3_init_18 rfl rfl ?_
  refine g_iconst X (v := -1) dX3_init_19 (by decide) ?_
  refine g_putI X (tyf := tyX3) 30 2 2 dX3_init_20 (Nat.le_of_ble_eq_true rfl) rfl (by decide) rfl iw_X3 (by decide) rfl q_fl_X3_19 tyX3_ok nmX3 rfl rfl rfl ?_
  refine g_aload_n X 0 dX3_init_23 rfl rfl ?_
  refine g_iconst X (v := 0) dX3_init_24 (by decide) ?_
  refine g_putI X (tyf := tyX3) 30 2 3 dX3_init_25 (Nat.le_of_ble_eq_true rfl) rfl (by decide) rfl iw_X3 (by decide) rfl q_fl_X3_22 tyX3_ok nmX3 rfl rfl rfl ?_
  refine g_aload_n X 0 dX3_init_28 rfl rfl ?_
  refine g_iconst X (v := 0) dX3_init_29 (by decide) ?_
  refine g_putI X (tyf := tyX3) 30 2 4 dX3_init_30 (Nat.le_of_ble_eq_true rfl) rfl (by decide) rfl iw_X3 (by decide) rfl q_fl_X3_25 tyX3_ok nmX3 rfl rfl rfl ?_
  refine g_aload_n X 0 dX3_init_33 rfl rfl ?_
  refine g_iconst X (v := 0) dX3_init_34 (by decide) ?_
  refine g_putI X (tyf := tyX3) 30 2 5 dX3_init_35 (Nat.le_of_ble_eq_true rfl) rfl (by decide) rfl iw_X3 (by decide) rfl q_fl_X3_28 tyX3_ok nmX3 rfl rfl rfl ?_
  refine g_aload_n X 0 dX3_init_38 rfl rfl ?_
  refine g_iconst X (v := 0) dX3_init_39 (by decide) ?_
  refine g_putI X (tyf := tyX3) 30 2 6 dX3_init_40 (Nat.le_of_ble_eq_true rfl) rfl (by decide) rfl iw_X3 (by decide) rfl q_fl_X3_31 tyX3_ok nmX3 rfl rfl rfl ?_
  refine g_aload_n X 0 dX3_init_43 rfl rfl ?_
  refine g_iconst X (v := 0) dX3_init_44 (by decide) ?_
  refine g_putI X (tyf := tyX3) 30 2 7 dX3_init_45 (Nat.le_of_ble_eq_true rfl) rfl (by decide) rfl iw_X3 (by decide) rfl q_fl_X3_34 tyX3_ok nmX3 rfl rfl rfl ?_
  refine g_aload_n X 0 dX3_init_48 rfl rfl ?_
  refine g_sipush X (v := 160) dX3_init_49 (by decide) ?_
  refine g_newaI X (N := 160) dX3_init_52 q_ac_int rfl (by decide) (by decide) (by decide) (Nat.le_of_ble_eq_true rfl) (Nat.le_of_ble_eq_true rfl) (fun q32 => ?_)
  refine g_putRF X (v := some q32) (tyf := tyX3) 30 2 8 dX3_init_54 (Nat.le_of_ble_eq_true rfl) rfl (by decide) rfl iw_X3 (by decide) rfl q_fl_X3_37 tyX3_ok nmX3 rfl rfl rfl hnm rfl ?_
  refine g_aload_n X 0 dX3_init_57 rfl rfl ?_
  refine g_iconst X (v := 0) dX3_init_58 (by decide) ?_
  refine g_putI X (tyf := tyX3) 30 2 9 dX3_init_59 (Nat.le_of_ble_eq_true rfl) rfl (by decide) rfl iw_X3 (by decide) rfl q_fl_X3_40 tyX3_ok nmX3 rfl rfl rfl ?_
  exact hr 62 _ _ _ dX3_init_62 ⟨q31, q32, rfl, rfl⟩
theorem c_X3_init_30_g {l : Launch} {G : GG} {b : Nat} {σ : St} {m0 : Mem} (hN : σ.2.1 = 31) : MtV l yX3_init cX3_init 1 none rmX3_init_30 G b σ m0 [.ref (σ.1 30)] (fun σ' m' => ∃ q31 q32 : Nat, σ' = SX3_init_30 σ q31 q32 ∧ m' = MX3_init_30 m0) := by
  obtain ⟨ad, N, R, Z⟩ := σ
  have hN : N = 31 := hN
  subst hN
  exact c_X3_init_30
def SX8_init_38 (σ : St) (q39 : Nat) : St := pR (nS ((σ.1, 39, σ.2.2.1, σ.2.2.2)) q39 24) 38 2 (some q39)
def MX8_init_38 (m0 : Mem) : Mem := nM (pI (pJ m0 38 0 (-1 : Int64)) 38 1 (0 : Int32)) 39
abbrev rmX8_init_38 : Room := { frames := 1, cells := 1, slots := 24, locals := 60 }
set_option maxRecDepth 100000 in
set_option maxHeartbeats 4000000 in
theorem c_X8_init_38 {l : Launch} {G : GG} {b : Nat} {ad : Nat → Nat} {R : Nat → Nat → Option Nat} {Z : Nat → Nat} {m0 : Mem} : MtV l yX8_init cX8_init 1 none rmX8_init_38 G b (ad, 39, R, Z) m0 [.ref (ad 38)] (fun σ' m' => ∃ q39 : Nat, σ' = SX8_init_38 (ad, 39, R, Z) q39 ∧ m' = MX8_init_38 m0) := by
  refine mtV_of (by decide) (Nat.le_of_ble_eq_true rfl) rfl (fun Γ hG X hnm hr => ?_)
  show Go Γ b (ad, 39, R, Z) 0 0 0 [(0, .ref (ad 38))] [] m0
  refine g_aload_n X 0 dX8_init_0 rfl rfl ?_
  refine g_oinit X dX8_init_1 q_ml_X8_3 q_im_objectInit q_co_objectInit (by decide) (Nat.le_of_ble_eq_true rfl) ?_
  refine g_aload_n X 0 dX8_init_4 rfl rfl ?_
  refine g_ldc2 X dX8_init_5 q_cl_X8_9 ?_
  refine g_putJ X (tyf := tyX8) 38 7 0 dX8_init_8 (Nat.le_of_ble_eq_true rfl) rfl (by decide) rfl iw_X8 (by decide) rfl q_fl_X8_11 tyX8_ok nmX8 rfl rfl rfl ?_
  refine g_aload_n X 0 dX8_init_11 rfl rfl ?_
  refine g_iconst X (v := 0) dX8_init_12 (by decide) ?_
  refine g_putI X (tyf := tyX8) 38 7 1 dX8_init_13 (Nat.le_of_ble_eq_true rfl) rfl (by decide) rfl iw_X8 (by decide) rfl q_fl_X8_17 tyX8_ok nmX8 rfl rfl rfl ?_
  refine g_aload_n X 0 dX8_init_16 rfl rfl ?_
  refine g_bipush X (v := 24) dX8_init_17 (by decide) ?_
  refine g_newaI X (N := 24) dX8_init_19 q_ac_int rfl (by decide) (by decide) (by decide) (Nat.le_of_ble_eq_true rfl) (Nat.le_of_ble_eq_true rfl) (fun q39 => ?_)
  refine g_putRF X (v := some q39) (tyf := tyX8) 38 7 2 dX8_init_21 (Nat.le_of_ble_eq_true rfl) rfl (by decide) rfl iw_X8 (by decide) rfl q_fl_X8_23 tyX8_ok nmX8 rfl rfl rfl hnm rfl ?_
  exact hr 24 _ _ _ dX8_init_24 ⟨q39, rfl, rfl⟩
theorem c_X8_init_38_g {l : Launch} {G : GG} {b : Nat} {σ : St} {m0 : Mem} (hN : σ.2.1 = 39) : MtV l yX8_init cX8_init 1 none rmX8_init_38 G b σ m0 [.ref (σ.1 38)] (fun σ' m' => ∃ q39 : Nat, σ' = SX8_init_38 σ q39 ∧ m' = MX8_init_38 m0) := by
  obtain ⟨ad, N, R, Z⟩ := σ
  have hN : N = 39 := hN
  subst hN
  exact c_X8_init_38
def SX8_init_40 (σ : St) (q41 : Nat) : St := pR (nS ((σ.1, 41, σ.2.2.1, σ.2.2.2)) q41 24) 40 2 (some q41)
def MX8_init_40 (m0 : Mem) : Mem := nM (pI (pJ m0 40 0 (-1 : Int64)) 40 1 (0 : Int32)) 41
abbrev rmX8_init_40 : Room := { frames := 1, cells := 1, slots := 24, locals := 60 }
set_option maxRecDepth 100000 in
set_option maxHeartbeats 4000000 in
theorem c_X8_init_40 {l : Launch} {G : GG} {b : Nat} {ad : Nat → Nat} {R : Nat → Nat → Option Nat} {Z : Nat → Nat} {m0 : Mem} : MtV l yX8_init cX8_init 1 none rmX8_init_40 G b (ad, 41, R, Z) m0 [.ref (ad 40)] (fun σ' m' => ∃ q41 : Nat, σ' = SX8_init_40 (ad, 41, R, Z) q41 ∧ m' = MX8_init_40 m0) := by
  refine mtV_of (by decide) (Nat.le_of_ble_eq_true rfl) rfl (fun Γ hG X hnm hr => ?_)
  show Go Γ b (ad, 41, R, Z) 0 0 0 [(0, .ref (ad 40))] [] m0
  refine g_aload_n X 0 dX8_init_0 rfl rfl ?_
  refine g_oinit X dX8_init_1 q_ml_X8_3 q_im_objectInit q_co_objectInit (by decide) (Nat.le_of_ble_eq_true rfl) ?_
  refine g_aload_n X 0 dX8_init_4 rfl rfl ?_
  refine g_ldc2 X dX8_init_5 q_cl_X8_9 ?_
  refine g_putJ X (tyf := tyX8) 40 7 0 dX8_init_8 (Nat.le_of_ble_eq_true rfl) rfl (by decide) rfl iw_X8 (by decide) rfl q_fl_X8_11 tyX8_ok nmX8 rfl rfl rfl ?_
  refine g_aload_n X 0 dX8_init_11 rfl rfl ?_
  refine g_iconst X (v := 0) dX8_init_12 (by decide) ?_
  refine g_putI X (tyf := tyX8) 40 7 1 dX8_init_13 (Nat.le_of_ble_eq_true rfl) rfl (by decide) rfl iw_X8 (by decide) rfl q_fl_X8_17 tyX8_ok nmX8 rfl rfl rfl ?_
  refine g_aload_n X 0 dX8_init_16 rfl rfl ?_
  refine g_bipush X (v := 24) dX8_init_17 (by decide) ?_
  refine g_newaI X (N := 24) dX8_init_19 q_ac_int rfl (by decide) (by decide) (by decide) (Nat.le_of_ble_eq_true rfl) (Nat.le_of_ble_eq_true rfl) (fun q41 => ?_)
  refine g_putRF X (v := some q41) (tyf := tyX8) 40 7 2 dX8_init_21 (Nat.le_of_ble_eq_true rfl) rfl (by decide) rfl iw_X8 (by decide) rfl q_fl_X8_23 tyX8_ok nmX8 rfl rfl rfl hnm rfl ?_
  exact hr 24 _ _ _ dX8_init_24 ⟨q41, rfl, rfl⟩
theorem c_X8_init_40_g {l : Launch} {G : GG} {b : Nat} {σ : St} {m0 : Mem} (hN : σ.2.1 = 41) : MtV l yX8_init cX8_init 1 none rmX8_init_40 G b σ m0 [.ref (σ.1 40)] (fun σ' m' => ∃ q41 : Nat, σ' = SX8_init_40 σ q41 ∧ m' = MX8_init_40 m0) := by
  obtain ⟨ad, N, R, Z⟩ := σ
  have hN : N = 41 := hN
  subst hN
  exact c_X8_init_40
def SX8_init_42 (σ : St) (q43 : Nat) : St := pR (nS ((σ.1, 43, σ.2.2.1, σ.2.2.2)) q43 24) 42 2 (some q43)
def MX8_init_42 (m0 : Mem) : Mem := nM (pI (pJ m0 42 0 (-1 : Int64)) 42 1 (0 : Int32)) 43
abbrev rmX8_init_42 : Room := { frames := 1, cells := 1, slots := 24, locals := 60 }
set_option maxRecDepth 100000 in
set_option maxHeartbeats 4000000 in
theorem c_X8_init_42 {l : Launch} {G : GG} {b : Nat} {ad : Nat → Nat} {R : Nat → Nat → Option Nat} {Z : Nat → Nat} {m0 : Mem} : MtV l yX8_init cX8_init 1 none rmX8_init_42 G b (ad, 43, R, Z) m0 [.ref (ad 42)] (fun σ' m' => ∃ q43 : Nat, σ' = SX8_init_42 (ad, 43, R, Z) q43 ∧ m' = MX8_init_42 m0) := by
  refine mtV_of (by decide) (Nat.le_of_ble_eq_true rfl) rfl (fun Γ hG X hnm hr => ?_)
  show Go Γ b (ad, 43, R, Z) 0 0 0 [(0, .ref (ad 42))] [] m0
  refine g_aload_n X 0 dX8_init_0 rfl rfl ?_
  refine g_oinit X dX8_init_1 q_ml_X8_3 q_im_objectInit q_co_objectInit (by decide) (Nat.le_of_ble_eq_true rfl) ?_
  refine g_aload_n X 0 dX8_init_4 rfl rfl ?_
  refine g_ldc2 X dX8_init_5 q_cl_X8_9 ?_
  refine g_putJ X (tyf := tyX8) 42 7 0 dX8_init_8 (Nat.le_of_ble_eq_true rfl) rfl (by decide) rfl iw_X8 (by decide) rfl q_fl_X8_11 tyX8_ok nmX8 rfl rfl rfl ?_
  refine g_aload_n X 0 dX8_init_11 rfl rfl ?_
  refine g_iconst X (v := 0) dX8_init_12 (by decide) ?_
  refine g_putI X (tyf := tyX8) 42 7 1 dX8_init_13 (Nat.le_of_ble_eq_true rfl) rfl (by decide) rfl iw_X8 (by decide) rfl q_fl_X8_17 tyX8_ok nmX8 rfl rfl rfl ?_
  refine g_aload_n X 0 dX8_init_16 rfl rfl ?_
  refine g_bipush X (v := 24) dX8_init_17 (by decide) ?_
  refine g_newaI X (N := 24) dX8_init_19 q_ac_int rfl (by decide) (by decide) (by decide) (Nat.le_of_ble_eq_true rfl) (Nat.le_of_ble_eq_true rfl) (fun q43 => ?_)
  refine g_putRF X (v := some q43) (tyf := tyX8) 42 7 2 dX8_init_21 (Nat.le_of_ble_eq_true rfl) rfl (by decide) rfl iw_X8 (by decide) rfl q_fl_X8_23 tyX8_ok nmX8 rfl rfl rfl hnm rfl ?_
  exact hr 24 _ _ _ dX8_init_24 ⟨q43, rfl, rfl⟩
theorem c_X8_init_42_g {l : Launch} {G : GG} {b : Nat} {σ : St} {m0 : Mem} (hN : σ.2.1 = 43) : MtV l yX8_init cX8_init 1 none rmX8_init_42 G b σ m0 [.ref (σ.1 42)] (fun σ' m' => ∃ q43 : Nat, σ' = SX8_init_42 σ q43 ∧ m' = MX8_init_42 m0) := by
  obtain ⟨ad, N, R, Z⟩ := σ
  have hN : N = 43 := hN
  subst hN
  exact c_X8_init_42
def SX8_init_44 (σ : St) (q45 : Nat) : St := pR (nS ((σ.1, 45, σ.2.2.1, σ.2.2.2)) q45 24) 44 2 (some q45)
def MX8_init_44 (m0 : Mem) : Mem := nM (pI (pJ m0 44 0 (-1 : Int64)) 44 1 (0 : Int32)) 45
abbrev rmX8_init_44 : Room := { frames := 1, cells := 1, slots := 24, locals := 60 }
set_option maxRecDepth 100000 in
set_option maxHeartbeats 4000000 in
theorem c_X8_init_44 {l : Launch} {G : GG} {b : Nat} {ad : Nat → Nat} {R : Nat → Nat → Option Nat} {Z : Nat → Nat} {m0 : Mem} : MtV l yX8_init cX8_init 1 none rmX8_init_44 G b (ad, 45, R, Z) m0 [.ref (ad 44)] (fun σ' m' => ∃ q45 : Nat, σ' = SX8_init_44 (ad, 45, R, Z) q45 ∧ m' = MX8_init_44 m0) := by
  refine mtV_of (by decide) (Nat.le_of_ble_eq_true rfl) rfl (fun Γ hG X hnm hr => ?_)
  show Go Γ b (ad, 45, R, Z) 0 0 0 [(0, .ref (ad 44))] [] m0
  refine g_aload_n X 0 dX8_init_0 rfl rfl ?_
  refine g_oinit X dX8_init_1 q_ml_X8_3 q_im_objectInit q_co_objectInit (by decide) (Nat.le_of_ble_eq_true rfl) ?_
  refine g_aload_n X 0 dX8_init_4 rfl rfl ?_
  refine g_ldc2 X dX8_init_5 q_cl_X8_9 ?_
  refine g_putJ X (tyf := tyX8) 44 7 0 dX8_init_8 (Nat.le_of_ble_eq_true rfl) rfl (by decide) rfl iw_X8 (by decide) rfl q_fl_X8_11 tyX8_ok nmX8 rfl rfl rfl ?_
  refine g_aload_n X 0 dX8_init_11 rfl rfl ?_
  refine g_iconst X (v := 0) dX8_init_12 (by decide) ?_
  refine g_putI X (tyf := tyX8) 44 7 1 dX8_init_13 (Nat.le_of_ble_eq_true rfl) rfl (by decide) rfl iw_X8 (by decide) rfl q_fl_X8_17 tyX8_ok nmX8 rfl rfl rfl ?_
  refine g_aload_n X 0 dX8_init_16 rfl rfl ?_
  refine g_bipush X (v := 24) dX8_init_17 (by decide) ?_
  refine g_newaI X (N := 24) dX8_init_19 q_ac_int rfl (by decide) (by decide) (by decide) (Nat.le_of_ble_eq_true rfl) (Nat.le_of_ble_eq_true rfl) (fun q45 => ?_)
  refine g_putRF X (v := some q45) (tyf := tyX8) 44 7 2 dX8_init_21 (Nat.le_of_ble_eq_true rfl) rfl (by decide) rfl iw_X8 (by decide) rfl q_fl_X8_23 tyX8_ok nmX8 rfl rfl rfl hnm rfl ?_
  exact hr 24 _ _ _ dX8_init_24 ⟨q45, rfl, rfl⟩
theorem c_X8_init_44_g {l : Launch} {G : GG} {b : Nat} {σ : St} {m0 : Mem} (hN : σ.2.1 = 45) : MtV l yX8_init cX8_init 1 none rmX8_init_44 G b σ m0 [.ref (σ.1 44)] (fun σ' m' => ∃ q45 : Nat, σ' = SX8_init_44 σ q45 ∧ m' = MX8_init_44 m0) := by
  obtain ⟨ad, N, R, Z⟩ := σ
  have hN : N = 45 := hN
  subst hN
  exact c_X8_init_44
def SX8_init_46 (σ : St) (q47 : Nat) : St := pR (nS ((σ.1, 47, σ.2.2.1, σ.2.2.2)) q47 24) 46 2 (some q47)
def MX8_init_46 (m0 : Mem) : Mem := nM (pI (pJ m0 46 0 (-1 : Int64)) 46 1 (0 : Int32)) 47
abbrev rmX8_init_46 : Room := { frames := 1, cells := 1, slots := 24, locals := 60 }
set_option maxRecDepth 100000 in
set_option maxHeartbeats 4000000 in
theorem c_X8_init_46 {l : Launch} {G : GG} {b : Nat} {ad : Nat → Nat} {R : Nat → Nat → Option Nat} {Z : Nat → Nat} {m0 : Mem} : MtV l yX8_init cX8_init 1 none rmX8_init_46 G b (ad, 47, R, Z) m0 [.ref (ad 46)] (fun σ' m' => ∃ q47 : Nat, σ' = SX8_init_46 (ad, 47, R, Z) q47 ∧ m' = MX8_init_46 m0) := by
  refine mtV_of (by decide) (Nat.le_of_ble_eq_true rfl) rfl (fun Γ hG X hnm hr => ?_)
  show Go Γ b (ad, 47, R, Z) 0 0 0 [(0, .ref (ad 46))] [] m0
  refine g_aload_n X 0 dX8_init_0 rfl rfl ?_
  refine g_oinit X dX8_init_1 q_ml_X8_3 q_im_objectInit q_co_objectInit (by decide) (Nat.le_of_ble_eq_true rfl) ?_
  refine g_aload_n X 0 dX8_init_4 rfl rfl ?_
  refine g_ldc2 X dX8_init_5 q_cl_X8_9 ?_
  refine g_putJ X (tyf := tyX8) 46 7 0 dX8_init_8 (Nat.le_of_ble_eq_true rfl) rfl (by decide) rfl iw_X8 (by decide) rfl q_fl_X8_11 tyX8_ok nmX8 rfl rfl rfl ?_
  refine g_aload_n X 0 dX8_init_11 rfl rfl ?_
  refine g_iconst X (v := 0) dX8_init_12 (by decide) ?_
  refine g_putI X (tyf := tyX8) 46 7 1 dX8_init_13 (Nat.le_of_ble_eq_true rfl) rfl (by decide) rfl iw_X8 (by decide) rfl q_fl_X8_17 tyX8_ok nmX8 rfl rfl rfl ?_
  refine g_aload_n X 0 dX8_init_16 rfl rfl ?_
  refine g_bipush X (v := 24) dX8_init_17 (by decide) ?_
  refine g_newaI X (N := 24) dX8_init_19 q_ac_int rfl (by decide) (by decide) (by decide) (Nat.le_of_ble_eq_true rfl) (Nat.le_of_ble_eq_true rfl) (fun q47 => ?_)
  refine g_putRF X (v := some q47) (tyf := tyX8) 46 7 2 dX8_init_21 (Nat.le_of_ble_eq_true rfl) rfl (by decide) rfl iw_X8 (by decide) rfl q_fl_X8_23 tyX8_ok nmX8 rfl rfl rfl hnm rfl ?_
  exact hr 24 _ _ _ dX8_init_24 ⟨q47, rfl, rfl⟩
theorem c_X8_init_46_g {l : Launch} {G : GG} {b : Nat} {σ : St} {m0 : Mem} (hN : σ.2.1 = 47) : MtV l yX8_init cX8_init 1 none rmX8_init_46 G b σ m0 [.ref (σ.1 46)] (fun σ' m' => ∃ q47 : Nat, σ' = SX8_init_46 σ q47 ∧ m' = MX8_init_46 m0) := by
  obtain ⟨ad, N, R, Z⟩ := σ
  have hN : N = 47 := hN
  subst hN
  exact c_X8_init_46
def SX8_init_48 (σ : St) (q49 : Nat) : St := pR (nS ((σ.1, 49, σ.2.2.1, σ.2.2.2)) q49 24) 48 2 (some q49)
def MX8_init_48 (m0 : Mem) : Mem := nM (pI (pJ m0 48 0 (-1 : Int64)) 48 1 (0 : Int32)) 49
abbrev rmX8_init_48 : Room := { frames := 1, cells := 1, slots := 24, locals := 60 }
set_option maxRecDepth 100000 in
set_option maxHeartbeats 4000000 in
theorem c_X8_init_48 {l : Launch} {G : GG} {b : Nat} {ad : Nat → Nat} {R : Nat → Nat → Option Nat} {Z : Nat → Nat} {m0 : Mem} : MtV l yX8_init cX8_init 1 none rmX8_init_48 G b (ad, 49, R, Z) m0 [.ref (ad 48)] (fun σ' m' => ∃ q49 : Nat, σ' = SX8_init_48 (ad, 49, R, Z) q49 ∧ m' = MX8_init_48 m0) := by
  refine mtV_of (by decide) (Nat.le_of_ble_eq_true rfl) rfl (fun Γ hG X hnm hr => ?_)
  show Go Γ b (ad, 49, R, Z) 0 0 0 [(0, .ref (ad 48))] [] m0
  refine g_aload_n X 0 dX8_init_0 rfl rfl ?_
  refine g_oinit X dX8_init_1 q_ml_X8_3 q_im_objectInit q_co_objectInit (by decide) (Nat.le_of_ble_eq_true rfl) ?_
  refine g_aload_n X 0 dX8_init_4 rfl rfl ?_
  refine g_ldc2 X dX8_init_5 q_cl_X8_9 ?_
  refine g_putJ X (tyf := tyX8) 48 7 0 dX8_init_8 (Nat.le_of_ble_eq_true rfl) rfl (by decide) rfl iw_X8 (by decide) rfl q_fl_X8_11 tyX8_ok nmX8 rfl rfl rfl ?_
  refine g_aload_n X 0 dX8_init_11 rfl rfl ?_
  refine g_iconst X (v := 0) dX8_init_12 (by decide) ?_
  refine g_putI X (tyf := tyX8) 48 7 1 dX8_init_13 (Nat.le_of_ble_eq_true rfl) rfl (by decide) rfl iw_X8 (by decide) rfl q_fl_X8_17 tyX8_ok nmX8 rfl rfl rfl ?_
  refine g_aload_n X 0 dX8_init_16 rfl rfl ?_
  refine g_bipush X (v := 24) dX8_init_17 (by decide) ?_
  refine g_newaI X (N := 24) dX8_init_19 q_ac_int rfl (by decide) (by decide) (by decide) (Nat.le_of_ble_eq_true rfl) (Nat.le_of_ble_eq_true rfl) (fun q49 => ?_)
  refine g_putRF X (v := some q49) (tyf := tyX8) 48 7 2 dX8_init_21 (Nat.le_of_ble_eq_true rfl) rfl (by decide) rfl iw_X8 (by decide) rfl q_fl_X8_23 tyX8_ok nmX8 rfl rfl rfl hnm rfl ?_
  exact hr 24 _ _ _ dX8_init_24 ⟨q49, rfl, rfl⟩
theorem c_X8_init_48_g {l : Launch} {G : GG} {b : Nat} {σ : St} {m0 : Mem} (hN : σ.2.1 = 49) : MtV l yX8_init cX8_init 1 none rmX8_init_48 G b σ m0 [.ref (σ.1 48)] (fun σ' m' => ∃ q49 : Nat, σ' = SX8_init_48 σ q49 ∧ m' = MX8_init_48 m0) := by
  obtain ⟨ad, N, R, Z⟩ := σ
  have hN : N = 49 := hN
  subst hN
  exact c_X8_init_48
def SX6_init_55 (σ : St) (q56 : Nat) : St := pR (nS ((σ.1, 56, σ.2.2.1, σ.2.2.2)) q56 40) 55 2 (some q56)
def MX6_init_55 (m0 : Mem) : Mem := nM (pI (pI m0 55 0 (-1 : Int32)) 55 1 (0 : Int32)) 56
abbrev rmX6_init_55 : Room := { frames := 1, cells := 1, slots := 40, locals := 60 }
set_option maxRecDepth 100000 in
set_option maxHeartbeats 4000000 in
theorem c_X6_init_55 {l : Launch} {G : GG} {b : Nat} {ad : Nat → Nat} {R : Nat → Nat → Option Nat} {Z : Nat → Nat} {m0 : Mem} : MtV l yX6_init cX6_init 1 none rmX6_init_55 G b (ad, 56, R, Z) m0 [.ref (ad 55)] (fun σ' m' => ∃ q56 : Nat, σ' = SX6_init_55 (ad, 56, R, Z) q56 ∧ m' = MX6_init_55 m0) := by
  refine mtV_of (by decide) (Nat.le_of_ble_eq_true rfl) rfl (fun Γ hG X hnm hr => ?_)
  show Go Γ b (ad, 56, R, Z) 0 0 0 [(0, .ref (ad 55))] [] m0
  refine g_aload_n X 0 dX6_init_0 rfl rfl ?_
  refine g_oinit X dX6_init_1 q_ml_X6_3 q_im_objectInit q_co_objectInit (by decide) (Nat.le_of_ble_eq_true rfl) ?_
  refine g_aload_n X 0 dX6_init_4 rfl rfl ?_
  refine g_iconst X (v := -1) dX6_init_5 (by decide) ?_
  refine g_putI X (tyf := tyX6) 55 5 0 dX6_init_6 (Nat.le_of_ble_eq_true rfl) rfl (by decide) rfl iw_X6 (by decide) rfl q_fl_X6_9 tyX6_ok nmX6 rfl rfl rfl ?_
  refine g_aload_n X 0 dX6_init_9 rfl rfl ?_
  refine g_iconst X (v := 0) dX6_init_10 (by decide) ?_
  refine g_putI X (tyf := tyX6) 55 5 1 dX6_init_11 (Nat.le_of_ble_eq_true rfl) rfl (by decide) rfl iw_X6 (by decide) rfl q_fl_X6_15 tyX6_ok nmX6 rfl rfl rfl ?_
  refine g_aload_n X 0 dX6_init_14 rfl rfl ?_
  refine g_bipush X (v := 40) dX6_init_15 (by decide) ?_
  refine g_newaI X (N := 40) dX6_init_17 q_ac_int rfl (by decide) (by decide) (by decide) (Nat.le_of_ble_eq_true rfl) (Nat.le_of_ble_eq_true rfl) (fun q56 => ?_)
  refine g_putRF X (v := some q56) (tyf := tyX6) 55 5 2 dX6_init_19 (Nat.le_of_ble_eq_true rfl) rfl (by decide) rfl iw_X6 (by decide) rfl q_fl_X6_18 tyX6_ok nmX6 rfl rfl rfl hnm rfl ?_
  exact hr 22 _ _ _ dX6_init_22 ⟨q56, rfl, rfl⟩
theorem c_X6_init_55_g {l : Launch} {G : GG} {b : Nat} {σ : St} {m0 : Mem} (hN : σ.2.1 = 56) : MtV l yX6_init cX6_init 1 none rmX6_init_55 G b σ m0 [.ref (σ.1 55)] (fun σ' m' => ∃ q56 : Nat, σ' = SX6_init_55 σ q56 ∧ m' = MX6_init_55 m0) := by
  obtain ⟨ad, N, R, Z⟩ := σ
  have hN : N = 56 := hN
  subst hN
  exact c_X6_init_55
def SX6_init_57 (σ : St) (q58 : Nat) : St := pR (nS ((σ.1, 58, σ.2.2.1, σ.2.2.2)) q58 40) 57 2 (some q58)
def MX6_init_57 (m0 : Mem) : Mem := nM (pI (pI m0 57 0 (-1 : Int32)) 57 1 (0 : Int32)) 58
abbrev rmX6_init_57 : Room := { frames := 1, cells := 1, slots := 40, locals := 60 }
set_option maxRecDepth 100000 in
set_option maxHeartbeats 4000000 in
theorem c_X6_init_57 {l : Launch} {G : GG} {b : Nat} {ad : Nat → Nat} {R : Nat → Nat → Option Nat} {Z : Nat → Nat} {m0 : Mem} : MtV l yX6_init cX6_init 1 none rmX6_init_57 G b (ad, 58, R, Z) m0 [.ref (ad 57)] (fun σ' m' => ∃ q58 : Nat, σ' = SX6_init_57 (ad, 58, R, Z) q58 ∧ m' = MX6_init_57 m0) := by
  refine mtV_of (by decide) (Nat.le_of_ble_eq_true rfl) rfl (fun Γ hG X hnm hr => ?_)
  show Go Γ b (ad, 58, R, Z) 0 0 0 [(0, .ref (ad 57))] [] m0
  refine g_aload_n X 0 dX6_init_0 rfl rfl ?_
  refine g_oinit X dX6_init_1 q_ml_X6_3 q_im_objectInit q_co_objectInit (by decide) (Nat.le_of_ble_eq_true rfl) ?_
  refine g_aload_n X 0 dX6_init_4 rfl rfl ?_
  refine g_iconst X (v := -1) dX6_init_5 (by decide) ?_
  refine g_putI X (tyf := tyX6) 57 5 0 dX6_init_6 (Nat.le_of_ble_eq_true rfl) rfl (by decide) rfl iw_X6 (by decide) rfl q_fl_X6_9 tyX6_ok nmX6 rfl rfl rfl ?_
  refine g_aload_n X 0 dX6_init_9 rfl rfl ?_
  refine g_iconst X (v := 0) dX6_init_10 (by decide) ?_
  refine g_putI X (tyf := tyX6) 57 5 1 dX6_init_11 (Nat.le_of_ble_eq_true rfl) rfl (by decide) rfl iw_X6 (by decide) rfl q_fl_X6_15 tyX6_ok nmX6 rfl rfl rfl ?_
  refine g_aload_n X 0 dX6_init_14 rfl rfl ?_
  refine g_bipush X (v := 40) dX6_init_15 (by decide) ?_
  refine g_newaI X (N := 40) dX6_init_17 q_ac_int rfl (by decide) (by decide) (by decide) (Nat.le_of_ble_eq_true rfl) (Nat.le_of_ble_eq_true rfl) (fun q58 => ?_)
  refine g_putRF X (v := some q58) (tyf := tyX6) 57 5 2 dX6_init_19 (Nat.le_of_ble_eq_true rfl) rfl (by decide) rfl iw_X6 (by decide) rfl q_fl_X6_18 tyX6_ok nmX6 rfl rfl rfl hnm rfl ?_
  exact hr 22 _ _ _ dX6_init_22 ⟨q58, rfl, rfl⟩
theorem c_X6_init_57_g {l : Launch} {G : GG} {b : Nat} {σ : St} {m0 : Mem} (hN : σ.2.1 = 58) : MtV l yX6_init cX6_init 1 none rmX6_init_57 G b σ m0 [.ref (σ.1 57)] (fun σ' m' => ∃ q58 : Nat, σ' = SX6_init_57 σ q58 ∧ m' = MX6_init_57 m0) := by
  obtain ⟨ad, N, R, Z⟩ := σ
  have hN : N = 58 := hN
  subst hN
  exact c_X6_init_57
def SX6_init_59 (σ : St) (q60 : Nat) : St := pR (nS ((σ.1, 60, σ.2.2.1, σ.2.2.2)) q60 40) 59 2 (some q60)
def MX6_init_59 (m0 : Mem) : Mem := nM (pI (pI m0 59 0 (-1 : Int32)) 59 1 (0 : Int32)) 60
abbrev rmX6_init_59 : Room := { frames := 1, cells := 1, slots := 40, locals := 60 }
set_option maxRecDepth 100000 in
set_option maxHeartbeats 4000000 in
theorem c_X6_init_59 {l : Launch} {G : GG} {b : Nat} {ad : Nat → Nat} {R : Nat → Nat → Option Nat} {Z : Nat → Nat} {m0 : Mem} : MtV l yX6_init cX6_init 1 none rmX6_init_59 G b (ad, 60, R, Z) m0 [.ref (ad 59)] (fun σ' m' => ∃ q60 : Nat, σ' = SX6_init_59 (ad, 60, R, Z) q60 ∧ m' = MX6_init_59 m0) := by
  refine mtV_of (by decide) (Nat.le_of_ble_eq_true rfl) rfl (fun Γ hG X hnm hr => ?_)
  show Go Γ b (ad, 60, R, Z) 0 0 0 [(0, .ref (ad 59))] [] m0
  refine g_aload_n X 0 dX6_init_0 rfl rfl ?_
  refine g_oinit X dX6_init_1 q_ml_X6_3 q_im_objectInit q_co_objectInit (by decide) (Nat.le_of_ble_eq_true rfl) ?_
  refine g_aload_n X 0 dX6_init_4 rfl rfl ?_
  refine g_iconst X (v := -1) dX6_init_5 (by decide) ?_
  refine g_putI X (tyf := tyX6) 59 5 0 dX6_init_6 (Nat.le_of_ble_eq_true rfl) rfl (by decide) rfl iw_X6 (by decide) rfl q_fl_X6_9 tyX6_ok nmX6 rfl rfl rfl ?_
  refine g_aload_n X 0 dX6_init_9 rfl rfl ?_
  refine g_iconst X (v := 0) dX6_init_10 (by decide) ?_
  refine g_putI X (tyf := tyX6) 59 5 1 dX6_init_11 (Nat.le_of_ble_eq_true rfl) rfl (by decide) rfl iw_X6 (by decide) rfl q_fl_X6_15 tyX6_ok nmX6 rfl rfl rfl ?_
  refine g_aload_n X 0 dX6_init_14 rfl rfl ?_
  refine g_bipush X (v := 40) dX6_init_15 (by decide) ?_
  refine g_newaI X (N := 40) dX6_init_17 q_ac_int rfl (by decide) (by decide) (by decide) (Nat.le_of_ble_eq_true rfl) (Nat.le_of_ble_eq_true rfl) (fun q60 => ?_)
  refine g_putRF X (v := some q60) (tyf := tyX6) 59 5 2 dX6_init_19 (Nat.le_of_ble_eq_true rfl) rfl (by decide) rfl iw_X6 (by decide) rfl q_fl_X6_18 tyX6_ok nmX6 rfl rfl rfl hnm rfl ?_
  exact hr 22 _ _ _ dX6_init_22 ⟨q60, rfl, rfl⟩
theorem c_X6_init_59_g {l : Launch} {G : GG} {b : Nat} {σ : St} {m0 : Mem} (hN : σ.2.1 = 60) : MtV l yX6_init cX6_init 1 none rmX6_init_59 G b σ m0 [.ref (σ.1 59)] (fun σ' m' => ∃ q60 : Nat, σ' = SX6_init_59 σ q60 ∧ m' = MX6_init_59 m0) := by
  obtain ⟨ad, N, R, Z⟩ := σ
  have hN : N = 60 := hN
  subst hN
  exact c_X6_init_59
def SX6_init_61 (σ : St) (q62 : Nat) : St := pR (nS ((σ.1, 62, σ.2.2.1, σ.2.2.2)) q62 40) 61 2 (some q62)
def MX6_init_61 (m0 : Mem) : Mem := nM (pI (pI m0 61 0 (-1 : Int32)) 61 1 (0 : Int32)) 62
abbrev rmX6_init_61 : Room := { frames := 1, cells := 1, slots := 40, locals := 60 }
set_option maxRecDepth 100000 in
set_option maxHeartbeats 4000000 in
theorem c_X6_init_61 {l : Launch} {G : GG} {b : Nat} {ad : Nat → Nat} {R : Nat → Nat → Option Nat} {Z : Nat → Nat} {m0 : Mem} : MtV l yX6_init cX6_init 1 none rmX6_init_61 G b (ad, 62, R, Z) m0 [.ref (ad 61)] (fun σ' m' => ∃ q62 : Nat, σ' = SX6_init_61 (ad, 62, R, Z) q62 ∧ m' = MX6_init_61 m0) := by
  refine mtV_of (by decide) (Nat.le_of_ble_eq_true rfl) rfl (fun Γ hG X hnm hr => ?_)
  show Go Γ b (ad, 62, R, Z) 0 0 0 [(0, .ref (ad 61))] [] m0
  refine g_aload_n X 0 dX6_init_0 rfl rfl ?_
  refine g_oinit X dX6_init_1 q_ml_X6_3 q_im_objectInit q_co_objectInit (by decide) (Nat.le_of_ble_eq_true rfl) ?_
  refine g_aload_n X 0 dX6_init_4 rfl rfl ?_
  refine g_iconst X (v := -1) dX6_init_5 (by decide) ?_
  refine g_putI X (tyf := tyX6) 61 5 0 dX6_init_6 (Nat.le_of_ble_eq_true rfl) rfl (by decide) rfl iw_X6 (by decide) rfl q_fl_X6_9 tyX6_ok nmX6 rfl rfl rfl ?_
  refine g_aload_n X 0 dX6_init_9 rfl rfl ?_
  refine g_iconst X (v := 0) dX6_init_10 (by decide) ?_
  refine g_putI X (tyf := tyX6) 61 5 1 dX6_init_11 (Nat.le_of_ble_eq_true rfl) rfl (by decide) rfl iw_X6 (by decide) rfl q_fl_X6_15 tyX6_ok nmX6 rfl rfl rfl ?_
  refine g_aload_n X 0 dX6_init_14 rfl rfl ?_
  refine g_bipush X (v := 40) dX6_init_15 (by decide) ?_
  refine g_newaI X (N := 40) dX6_init_17 q_ac_int rfl (by decide) (by decide) (by decide) (Nat.le_of_ble_eq_true rfl) (Nat.le_of_ble_eq_true rfl) (fun q62 => ?_)
  refine g_putRF X (v := some q62) (tyf := tyX6) 61 5 2 dX6_init_19 (Nat.le_of_ble_eq_true rfl) rfl (by decide) rfl iw_X6 (by decide) rfl q_fl_X6_18 tyX6_ok nmX6 rfl rfl rfl hnm rfl ?_
  exact hr 22 _ _ _ dX6_init_22 ⟨q62, rfl, rfl⟩
theorem c_X6_init_61_g {l : Launch} {G : GG} {b : Nat} {σ : St} {m0 : Mem} (hN : σ.2.1 = 62) : MtV l yX6_init cX6_init 1 none rmX6_init_61 G b σ m0 [.ref (σ.1 61)] (fun σ' m' => ∃ q62 : Nat, σ' = SX6_init_61 σ q62 ∧ m' = MX6_init_61 m0) := by
  obtain ⟨ad, N, R, Z⟩ := σ
  have hN : N = 62 := hN
  subst hN
  exact c_X6_init_61
def SX2_init_50 (σ : St) (x0 : Nat) : St := pR ((σ.1, 51, σ.2.2.1, σ.2.2.2)) 50 0 (some x0)
def MX2_init_50 (m0 : Mem) : Mem := m0
abbrev rmX2_init_50 : Room := { frames := 1, cells := 0, slots := 0, locals := 60 }
set_option maxRecDepth 100000 in
set_option maxHeartbeats 4000000 in
theorem c_X2_init_50 {l : Launch} {G : GG} {b : Nat} {ad : Nat → Nat} {R : Nat → Nat → Option Nat} {Z : Nat → Nat} {m0 : Mem} {x0 : Nat} : MtV l yX2_init cX2_init 2 none rmX2_init_50 G b (ad, 51, R, Z) m0 [.ref (ad 50), .ref x0] (fun σ' m' => σ' = SX2_init_50 (ad, 51, R, Z) x0 ∧ m' = MX2_init_50 m0) := by
  refine mtV_of (by decide) (Nat.le_of_ble_eq_true rfl) rfl (fun Γ hG X hnm hr => ?_)
  show Go Γ b (ad, 51, R, Z) 0 0 0 [(0, .ref (ad 50)), (1, .ref x0)] [] m0
  refine g_aload_n X 0 dX2_init_0 rfl rfl ?_
  refine g_oinit X dX2_init_1 q_ml_X2_3 q_im_objectInit q_co_objectInit (by decide) (Nat.le_of_ble_eq_true rfl) ?_
  refine g_aload_n X 0 dX2_init_4 rfl rfl ?_
  refine g_aload_n X 1 dX2_init_5 rfl rfl ?_
  refine g_putRF X (v := some x0) (tyf := tyX2) 50 1 0 dX2_init_6 (Nat.le_of_ble_eq_true rfl) rfl (by decide) rfl iw_X2 (by decide) rfl q_fl_X2_9 tyX2_ok nmX2 rfl rfl rfl hnm rfl ?_
  exact hr 9 _ _ _ dX2_init_9 ⟨rfl, rfl⟩
theorem c_X2_init_50_g {l : Launch} {G : GG} {b : Nat} {σ : St} {m0 : Mem} {x0 : Nat} (hN : σ.2.1 = 51) : MtV l yX2_init cX2_init 2 none rmX2_init_50 G b σ m0 [.ref (σ.1 50), .ref x0] (fun σ' m' => σ' = SX2_init_50 σ x0 ∧ m' = MX2_init_50 m0) := by
  obtain ⟨ad, N, R, Z⟩ := σ
  have hN : N = 51 := hN
  subst hN
  exact c_X2_init_50
def SX5_init_33 (σ : St) (x0 : Nat) (q34 : Nat) (q35 : Nat) (q36 : Nat) (q37 : Nat) (q38 : Nat) (q39 : Nat) (q40 : Nat) (q41 : Nat) (q42 : Nat) (q43 : Nat) (q44 : Nat) (q45 : Nat) (q46 : Nat) (q47 : Nat) (q48 : Nat) (q49 : Nat) : St := pR (SX8_init_48 (nS (pR (SX8_init_46 (nS (pR (SX8_init_44 (nS (pR (SX8_init_42 (nS (pR (SX8_init_40 (nS (pR (SX8_init_38 (nS (pR (pR (nS (pR (nS (pR (nS (pR (nS ((σ.1, 34, σ.2.2.1, σ.2.2.2)) q34 6) 33 1 (some q34)) q35 6) 33 3 (some q35)) q36 6) 33 4 (some q36)) q37 40) 33 5 (some q37)) 33 0 (some x0)) q38 0) q39) 35 0 (some q38)) q40 0) q41) 35 1 (some q40)) q42 0) q43) 35 2 (some q42)) q44 0) q45) 35 3 (some q44)) q46 0) q47) 35 4 (some q46)) q48 0) q49) 35 5 (some q48)
def MX5_init_33 (m0 : Mem) : Mem := MX8_init_48 (nM (MX8_init_46 (nM (MX8_init_44 (nM (MX8_init_42 (nM (MX8_init_40 (nM (MX8_init_38 (nM (nM (nM (nM (pI (nM m0 34) 33 2 (0 : Int32)) 35) 36) 37) 38)) 40)) 42)) 44)) 46)) 48)
abbrev rmX5_init_33 : Room := { frames := 2, cells := 16, slots := 220, locals := 80 }
set_option maxRecDepth 100000 in
set_option maxHeartbeats 4000000 in
theorem c_X5_init_33 {l : Launch} {G : GG} {b : Nat} {ad : Nat → Nat} {R : Nat → Nat → Option Nat} {Z : Nat → Nat} {m0 : Mem} {x0 : Nat} : MtV l yX5_init cX5_init 3 none rmX5_init_33 G b (ad, 34, R, Z) m0 [.ref (ad 33), .ref x0] (fun σ' m' => ∃ q34 q35 q36 q37 q38 q39 q40 q41 q42 q43 q44 q45 q46 q47 q48 q49 : Nat, σ' = SX5_init_33 (ad, 34, R, Z) x0 q34 q35 q36 q37 q38 q39 q40 q41 q42 q43 q44 q45 q46 q47 q48 q49 ∧ m' = MX5_init_33 m0) := by
  refine mtV_of (by decide) (Nat.le_of_ble_eq_true rfl) rfl (fun Γ hG X hnm hr => ?_)
  show Go Γ b (ad, 34, R, Z) 0 0 0 [(0, .ref (ad 33)), (1, .ref x0)] [] m0
  refine g_aload_n X 0 dX5_init_0 rfl rfl ?_
  refine g_oinit X dX5_init_1 q_ml_X5_3 q_im_objectInit q_co_objectInit (by decide) (Nat.le_of_ble_eq_true rfl) ?_
  refine g_aload_n X 0 dX5_init_4 rfl rfl ?_
  refine g_bipush X (v := 6) dX5_init_5 (by decide) ?_
  refine g_newq13 X (N := 6) dX5_init_7 q_kl_X5_9 rfl (by decide) (by decide) (by decide) (Nat.le_of_ble_eq_true rfl) (Nat.le_of_ble_eq_true rfl) (fun q34 => ?_)
  refine g_putRF X (v := some q34) (tyf := tyX5) 33 4 1 dX5_init_10 (Nat.le_of_ble_eq_true rfl) rfl (by decide) rfl iw_X5 (by decide) rfl q_fl_X5_11 tyX5_ok nmX5 rfl rfl rfl hnm rfl ?_
  refine g_aload_n X 0 dX5_init_13 rfl rfl ?_
  refine g_iconst X (v := 0) dX5_init_14 (by decide) ?_
  refine g_putI X (tyf := tyX5) 33 4 2 dX5_init_15 (Nat.le_of_ble_eq_true rfl) rfl (by decide) rfl iw_X5 (by decide) rfl q_fl_X5_17 tyX5_ok nmX5 rfl rfl rfl ?_
  refine g_aload_n X 0 dX5_init_18 rfl rfl ?_
  refine g_bipush X (v := 6) dX5_init_19 (by decide) ?_
  refine g_newq14 X (N := 6) dX5_init_21 q_kl_X5_21 rfl (by decide) (by decide) (by decide) (Nat.le_of_ble_eq_true rfl) (Nat.le_of_ble_eq_true rfl) (fun q35 => ?_)
  refine g_putRF X (v := some q35) (tyf := tyX5) 33 4 3 dX5_init_24 (Nat.le_of_ble_eq_true rfl) rfl (by decide) rfl iw_X5 (by decide) rfl q_fl_X5_23 tyX5_ok nmX5 rfl rfl rfl hnm rfl ?_
  refine g_aload_n X 0 dX5_init_27 rfl rfl ?_
  refine g_bipush X (v := 6) dX5_init_28 (by decide) ?_
  refine g_newaI X (N := 6) dX5_init_30 q_ac_int rfl (by decide) (by decide) (by decide) (Nat.le_of_ble_eq_true rfl) (Nat.le_of_ble_eq_true rfl) (fun q36 => ?_)
  refine g_putRF X (v := some q36) (tyf := tyX5) 33 4 4 dX5_init_32 (Nat.le_of_ble_eq_true rfl) rfl (by decide) rfl iw_X5 (by decide) rfl q_fl_X5_27 tyX5_ok nmX5 rfl rfl rfl hnm rfl ?_
  refine g_aload_n X 0 dX5_init_35 rfl rfl ?_
  refine g_bipush X (v := 40) dX5_init_36 (by decide) ?_
  refine g_newaI X (N := 40) dX5_init_38 q_ac_int rfl (by decide) (by decide) (by decide) (Nat.le_of_ble_eq_true rfl) (Nat.le_of_ble_eq_true rfl) (fun q37 => ?_)
  refine g_putRF X (v := some q37) (tyf := tyX5) 33 4 5 dX5_init_40 (Nat.le_of_ble_eq_true rfl) rfl (by decide) rfl iw_X5 (by decide) rfl q_fl_X5_31 tyX5_ok nmX5 rfl rfl rfl hnm rfl ?_
  refine g_aload_n X 0 dX5_init_43 rfl rfl ?_
  refine g_aload_n X 1 dX5_init_44 rfl rfl ?_
  refine g_putRF X (v := some x0) (tyf := tyX5) 33 4 0 dX5_init_45 (Nat.le_of_ble_eq_true rfl) rfl (by decide) rfl iw_X5 (by decide) rfl q_fl_X5_34 tyX5_ok nmX5 rfl rfl rfl hnm rfl ?_
  refine g_iconst X (v := 0) dX5_init_48 (by decide) ?_
  refine g_istore_n X (lv' := [(2, .int (0 : Int32)), (0, .ref (ad 33)), (1, .ref x0)]) dX5_init_49 rfl (by decide) rfl ?_
  refine g_iload_n X 0 dX5_init_50 rfl rfl ?_
  refine g_bipush X (v := 6) dX5_init_51 (by decide) ?_
  refine g_icmp_ge X (tgt := 75) dX5_init_53 (by decide) (fun c9 => absurd c9 (by decide)) (fun _ => ?_)
  refine g_aload_n X 1 dX5_init_56 rfl rfl ?_
  refine g_getr X (x := q35) 33 4 3 dX5_init_57 (Nat.le_of_ble_eq_true rfl) rfl (by decide) rfl iw_X5 (by decide) rfl q_fl_X5_23 rfl ?_
  refine g_iload_n X 0 dX5_init_60 rfl rfl ?_
  refine g_new X (tyf := tyX8) 7 dX5_init_61 q_kl_X5_21 q_is_X8 q_in_X8 rfl iw_X8 tyX8_ok dv_X8 rfl (by decide) (Nat.le_of_ble_eq_true rfl) (Nat.le_of_ble_eq_true rfl) (fun q38 => ?_)
  refine g_dup X dX5_init_64 rfl ?_
  refine g_cNV X q_in_X8 q_im_yX8_init q_co_yX8_init (c_X8_init_38_g rfl) dX5_init_65 ⟨(Nat.le_of_ble_eq_true rfl), (Nat.le_of_ble_eq_true rfl)⟩ ⟨(Nat.le_of_ble_eq_true rfl), (Nat.le_of_ble_eq_true rfl)⟩ (Nat.le_of_ble_eq_true rfl) (fun σ' m' hp => ?_)
  obtain ⟨q39, rfl, rfl⟩ := hp
  refine g_aast14 X 35 38 (n := 6) dX5_init_68 (Nat.le_of_ble_eq_true rfl) rfl rfl (by show inn _ _; decide) (Nat.le_of_ble_eq_true rfl) rfl ?_
  refine g_iinc X 0 (v := 1) (lv' := [(2, .int (1 : Int32)), (0, .ref (ad 33)), (1, .ref x0)]) dX5_init_69 rfl (by decide) (by decide) rfl ?_
  refine g_goto X (tgt := 50) dX5_init_72 (by decide) ?_
  refine g_iload_n X 0 dX5_init_50 rfl rfl ?_
  refine g_bipush X (v := 6) dX5_init_51 (by decide) ?_
  refine g_icmp_ge X (tgt := 75) dX5_init_53 (by decide) (fun c9 => absurd c9 (by decide)) (fun _ => ?_)
  refine g_aload_n X 1 dX5_init_56 rfl rfl ?_
  refine g_getr X (x := q35) 33 4 3 dX5_init_57 (Nat.le_of_ble_eq_true rfl) rfl (by decide) rfl iw_X5 (by decide) rfl q_fl_X5_23 rfl ?_
  refine g_iload_n X 0 dX5_init_60 rfl rfl ?_
  refine g_new X (tyf := tyX8) 7 dX5_init_61 q_kl_X5_21 q_is_X8 q_in_X8 rfl iw_X8 tyX8_ok dv_X8 rfl (by decide) (Nat.le_of_ble_eq_true rfl) (Nat.le_of_ble_eq_true rfl) (fun q40 => ?_)
  refine g_dup X dX5_init_64 rfl ?_
  refine g_cNV X q_in_X8 q_im_yX8_init q_co_yX8_init (c_X8_init_40_g rfl) dX5_init_65 ⟨(Nat.le_of_ble_eq_true rfl), (Nat.le_of_ble_eq_true rfl)⟩ ⟨(Nat.le_of_ble_eq_true rfl), (Nat.le_of_ble_eq_true rfl)⟩ (Nat.le_of_ble_eq_true rfl) (fun σ' m' hp => ?_)
  obtain ⟨q41, rfl, rfl⟩ := hp
  refine g_aast14 X 35 40 (n := 6) dX5_init_68 (Nat.le_of_ble_eq_true rfl) rfl rfl (by show inn _ _; decide) (Nat.le_of_ble_eq_true rfl) rfl ?_
  refine g_iinc X 0 (v := 2) (lv' := [(2, .int (2 : Int32)), (0, .ref (ad 33)), (1, .ref x0)]) dX5_init_69 rfl (by decide) (by decide) rfl ?_
  refine g_goto X (tgt := 50) dX5_init_72 (by decide) ?_
  refine g_iload_n X 0 dX5_init_50 rfl rfl ?_
  refine g_bipush X (v := 6) dX5_init_51 (by decide) ?_
  refine g_icmp_ge X (tgt := 75) dX5_init_53 (by decide) (fun c9 => absurd c9 (by decide)) (fun _ => ?_)
  refine g_aload_n X 1 dX5_init_56 rfl rfl ?_
  refine g_getr X (x := q35) 33 4 3 dX5_init_57 (Nat.le_of_ble_eq_true rfl) rfl (by decide) rfl iw_X5 (by decide) rfl q_fl_X5_23 rfl ?_
  refine g_iload_n X 0 dX5_init_60 rfl rfl ?_
  refine g_new X (tyf := tyX8) 7 dX5_init_61 q_kl_X5_21 q_is_X8 q_in_X8 rfl iw_X8 tyX8_ok dv_X8 rfl (by decide) (Nat.le_of_ble_eq_true rfl) (Nat.le_of_ble_eq_true rfl) (fun q42 => ?_)
  refine g_dup X dX5_init_64 rfl ?_
  refine g_cNV X q_in_X8 q_im_yX8_init q_co_yX8_init (c_X8_init_42_g rfl) dX5_init_65 ⟨(Nat.le_of_ble_eq_true rfl), (Nat.le_of_ble_eq_true rfl)⟩ ⟨(Nat.le_of_ble_eq_true rfl), (Nat.le_of_ble_eq_true rfl)⟩ (Nat.le_of_ble_eq_true rfl) (fun σ' m' hp => ?_)
  obtain ⟨q43, rfl, rfl⟩ := hp
  refine g_aast14 X 35 42 (n := 6) dX5_init_68 (Nat.le_of_ble_eq_true rfl) rfl rfl (by show inn _ _; decide) (Nat.le_of_ble_eq_true rfl) rfl ?_
  refine g_iinc X 0 (v := 3) (lv' := [(2, .int (3 : Int32)), (0, .ref (ad 33)), (1, .ref x0)]) dX5_init_69 rfl (by decide) (by decide) rfl ?_
  refine g_goto X (tgt := 50) dX5_init_72 (by decide) ?_
  refine g_iload_n X 0 dX5_init_50 rfl rfl ?_
  refine g_bipush X (v := 6) dX5_init_51 (by decide) ?_
  refine g_icmp_ge X (tgt := 75) dX5_init_53 (by decide) (fun c9 => absurd c9 (by decide)) (fun _ => ?_)
  refine g_aload_n X 1 dX5_init_56 rfl rfl ?_
  refine g_getr X (x := q35) 33 4 3 dX5_init_57 (Nat.le_of_ble_eq_true rfl) rfl (by decide) rfl iw_X5 (by decide) rfl q_fl_X5_23 rfl ?_
  refine g_iload_n X 0 dX5_init_60 rfl rfl ?_
  refine g_new X (tyf := tyX8) 7 dX5_init_61 q_kl_X5_21 q_is_X8 q_in_X8 rfl iw_X8 tyX8_ok dv_X8 rfl (by decide) (Nat.le_of_ble_eq_true rfl) (Nat.le_of_ble_eq_true rfl) (fun q44 => ?_)
  refine g_dup X dX5_init_64 rfl ?_
  refine g_cNV X q_in_X8 q_im_yX8_init q_co_yX8_init (c_X8_init_44_g rfl) dX5_init_65 ⟨(Nat.le_of_ble_eq_true rfl), (Nat.le_of_ble_eq_true rfl)⟩ ⟨(Nat.le_of_ble_eq_true rfl), (Nat.le_of_ble_eq_true rfl)⟩ (Nat.le_of_ble_eq_true rfl) (fun σ' m' hp => ?_)
  obtain ⟨q45, rfl, rfl⟩ := hp
  refine g_aast14 X 35 44 (n := 6) dX5_init_68 (Nat.le_of_ble_eq_true rfl) rfl rfl (by show inn _ _; decide) (Nat.le_of_ble_eq_true rfl) rfl ?_
  refine g_iinc X 0 (v := 4) (lv' := [(2, .int (4 : Int32)), (0, .ref (ad 33)), (1, .ref x0)]) dX5_init_69 rfl (by decide) (by decide) rfl ?_
  refine g_goto X (tgt := 50) dX5_init_72 (by decide) ?_
  refine g_iload_n X 0 dX5_init_50 rfl rfl ?_
  refine g_bipush X (v := 6) dX5_init_51 (by decide) ?_
  refine g_icmp_ge X (tgt := 75) dX5_init_53 (by decide) (fun c9 => absurd c9 (by decide)) (fun _ => ?_)
  refine g_aload_n X 1 dX5_init_56 rfl rfl ?_
  refine g_getr X (x := q35) 33 4 3 dX5_init_57 (Nat.le_of_ble_eq_true rfl) rfl (by decide) rfl iw_X5 (by decide) rfl q_fl_X5_23 rfl ?_
  refine g_iload_n X 0 dX5_init_60 rfl rfl ?_
  refine g_new X (tyf := tyX8) 7 dX5_init_61 q_kl_X5_21 q_is_X8 q_in_X8 rfl iw_X8 tyX8_ok dv_X8 rfl (by decide) (Nat.le_of_ble_eq_true rfl) (Nat.le_of_ble_eq_true rfl) (fun q46 => ?_)
  refine g_dup X dX5_init_64 rfl ?_
  refine g_cNV X q_in_X8 q_im_yX8_init q_co_yX8_init (c_X8_init_46_g rfl) dX5_init_65 ⟨(Nat.le_of_ble_eq_true rfl), (Nat.le_of_ble_eq_true rfl)⟩ ⟨(Nat.le_of_ble_eq_true rfl), (Nat.le_of_ble_eq_true rfl)⟩ (Nat.le_of_ble_eq_true rfl) (fun σ' m' hp => ?_)
  obtain ⟨q47, rfl, rfl⟩ := hp
  refine g_aast14 X 35 46 (n := 6) dX5_init_68 (Nat.le_of_ble_eq_true rfl) rfl rfl (by show inn _ _; decide) (Nat.le_of_ble_eq_true rfl) rfl ?_
  refine g_iinc X 0 (v := 5) (lv' := [(2, .int (5 : Int32)), (0, .ref (ad 33)), (1, .ref x0)]) dX5_init_69 rfl (by decide) (by decide) rfl ?_
  refine g_goto X (tgt := 50) dX5_init_72 (by decide) ?_
  refine g_iload_n X 0 dX5_init_50 rfl rfl ?_
  refine g_bipush X (v := 6) dX5_init_51 (by decide) ?_
  refine g_icmp_ge X (tgt := 75) dX5_init_53 (by decide) (fun c9 => absurd c9 (by decide)) (fun _ => ?_)
  refine g_aload_n X 1 dX5_init_56 rfl rfl ?_
  refine g_getr X (x := q35) 33 4 3 dX5_init_57 (Nat.le_of_ble_eq_true rfl) rfl (by decide) rfl iw_X5 (by decide) rfl q_fl_X5_23 rfl ?_
  refine g_iload_n X 0 dX5_init_60 rfl rfl ?_
  refine g_new X (tyf := tyX8) 7 dX5_init_61 q_kl_X5_21 q_is_X8 q_in_X8 rfl iw_X8 tyX8_ok dv_X8 rfl (by decide) (Nat.le_of_ble_eq_true rfl) (Nat.le_of_ble_eq_true rfl) (fun q48 => ?_)
  refine g_dup X dX5_init_64 rfl ?_
  refine g_cNV X q_in_X8 q_im_yX8_init q_co_yX8_init (c_X8_init_48_g rfl) dX5_init_65 ⟨(Nat.le_of_ble_eq_true rfl), (Nat.le_of_ble_eq_true rfl)⟩ ⟨(Nat.le_of_ble_eq_true rfl), (Nat.le_of_ble_eq_true rfl)⟩ (Nat.le_of_ble_eq_true rfl) (fun σ' m' hp => ?_)
  obtain ⟨q49, rfl, rfl⟩ := hp
  refine g_aast14 X 35 48 (n := 6) dX5_init_68 (Nat.le_of_ble_eq_true rfl) rfl rfl (by show inn _ _; decide) (Nat.le_of_ble_eq_true rfl) rfl ?_
  refine g_iinc X 0 (v := 6) (lv' := [(2, .int (6 : Int32)), (0, .ref (ad 33)), (1, .ref x0)]) dX5_init_69 rfl (by decide) (by decide) rfl ?_
  refine g_goto X (tgt := 50) dX5_init_72 (by decide) ?_
  refine g_iload_n X 0 dX5_init_50 rfl rfl ?_
  refine g_bipush X (v := 6) dX5_init_51 (by decide) ?_
  refine g_icmp_ge X (tgt := 75) dX5_init_53 (by decide) (fun _ => ?_) (fun c9 => absurd c9 (by decide))
  exact hr 75 _ _ _ dX5_init_75 ⟨q34, q35, q36, q37, q38, q39, q40, q41, q42, q43, q44, q45, q46, q47, q48, q49, rfl, rfl⟩
theorem c_X5_init_33_g {l : Launch} {G : GG} {b : Nat} {σ : St} {m0 : Mem} {x0 : Nat} (hN : σ.2.1 = 34) : MtV l yX5_init cX5_init 3 none rmX5_init_33 G b σ m0 [.ref (σ.1 33), .ref x0] (fun σ' m' => ∃ q34 q35 q36 q37 q38 q39 q40 q41 q42 q43 q44 q45 q46 q47 q48 q49 : Nat, σ' = SX5_init_33 σ x0 q34 q35 q36 q37 q38 q39 q40 q41 q42 q43 q44 q45 q46 q47 q48 q49 ∧ m' = MX5_init_33 m0) := by
  obtain ⟨ad, N, R, Z⟩ := σ
  have hN : N = 34 := hN
  subst hN
  exact c_X5_init_33
