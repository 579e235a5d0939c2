set_option maxRecDepth 100000 in
set_option maxHeartbeats 1000000 in
theorem c_X9_init {l : Launch} {G : GG} {b : Nat} {ad : Nat → Nat} {R : Nat → Nat → Option Nat} {Z : Nat → Nat} {m0 mW mA mB : Mem} {r8 r9 : Int32} {n9 : Nat} {z : Nat → Nat} (hz : z 0 = n9) (hW : X3_write (Mnew m0) = some mW) (hRD : X3_read mW = some ((r8, r9), mA)) (hbad : mA.1 30 2 = -1) (hn9 : (mA.1 30 9).toNatClampNeg = n9) (hT0 : ¬ mA.1 30 9 < 0 ∧ mA.1 30 9 < 160 ∧ (mA.1 30 9).toNatClampNeg < 160 ∧ X7_init 52 (mA.1 30 9).toNatClampNeg r8 r9 (nM (pC (nM (nM mA 52) 53) 32 53 0 0 (mA.1 30 9).toNatClampNeg) 54) = some mB) (s1 : ¬ 6 ≤ mB.1 33 2) (s2 : inn (mB.1 33 2) 6) (s3 : (mB.1 33 2).toNatClampNeg = 0) : MtV l yX9_init cX9_init 2 none rmX9_init G b (ad, 1, R, Z) m0 [.ref (ad 0)] (fun σ' m' => σ'.2.1 = 63 ∧ σ'.1 0 = ad 0 ∧ Agr 63 σ' z ∧ m' = Mold mB) := by
  have hT := hT0
  refine mtV_of (by decide) (Nat.le_of_ble_eq_true rfl) rfl (fun Γ hG X hnm hr => ?_)
  subst hG
  subst hn9
  show Go Γ b (ad, 1, R, Z) 0 0 0 [(0, .ref (ad 0))] [] m0
  refine g_aload_n X 0 dX9_init_0 rfl rfl ?_
  refine g_oinit X dX9_init_1 q_ml_X9_1 q_im_objectInit q_co_objectInit (by decide) (Nat.le_of_ble_eq_true rfl) ?_
  refine g_aload_n X 0 dX9_init_4 rfl rfl ?_
  refine g_new X (tyf := tyX4) 3 dX9_init_5 q_kl_X9_7 q_is_X4 q_in_X4 rfl iw_X4 tyX4_ok dv_X4 rfl (by decide) (Nat.le_of_ble_eq_true rfl) (Nat.le_of_ble_eq_true rfl) (fun q1 => ?_)
  refine g_dup X dX9_init_8 rfl ?_
  refine g_cNR X q_in_X4 q_im_yX4_init q_co_yX4_init (c_X4_init_1_g rfl) dX9_init_9 ⟨(Nat.le_of_ble_eq_true rfl), (Nat.le_of_ble_eq_true rfl)⟩ ⟨(Nat.le_of_ble_eq_true rfl), (Nat.le_of_ble_eq_true rfl)⟩ (Nat.le_of_ble_eq_true rfl) (fun σ' m' hp => ?_)
  obtain ⟨q2, q3, q4, rfl, rfl⟩ := hp
  refine g_putRF X (v := some q1) (tyf := tyX9) 0 8 0 dX9_init_12 (Nat.le_of_ble_eq_true rfl) rfl (by decide) rfl iw_X9 (by decide) rfl q_fl_X9_10 tyX9_ok nmX9 rfl rfl rfl hnm rfl ?_
  refine g_aload_n X 0 dX9_init_15 rfl rfl ?_
  refine g_new X (tyf := tyX0) 0 dX9_init_16 q_kl_X9_16 q_is_X0 q_in_X0 rfl iw_X0 tyX0_ok dv_X0 rfl (by decide) (Nat.le_of_ble_eq_true rfl) (Nat.le_of_ble_eq_true rfl) (fun q5 => ?_)
  refine g_dup X dX9_init_19 rfl ?_
  refine g_cNF X q_in_X0 q_im_yX0_init q_co_yX0_init (c_X0_init_5_g rfl) dX9_init_20 ⟨(Nat.le_of_ble_eq_true rfl), (Nat.le_of_ble_eq_true rfl)⟩ ⟨(Nat.le_of_ble_eq_true rfl), (Nat.le_of_ble_eq_true rfl)⟩ (Nat.le_of_ble_eq_true rfl) (fun σ' m' hp => ?_)
  obtain ⟨q6, q7, q8, q9, q10, q11, rfl, rfl⟩ := hp
  refine g_putRF X (v := some q5) (tyf := tyX9) 0 8 1 dX9_init_23 (Nat.le_of_ble_eq_true rfl) rfl (by decide) rfl iw_X9 (by decide) rfl q_fl_X9_19 tyX9_ok nmX9 rfl rfl rfl hnm rfl ?_
  refine g_aload_n X 0 dX9_init_26 rfl rfl ?_
  refine g_new X (tyf := tyX4) 3 dX9_init_27 q_kl_X9_7 q_is_X4 q_in_X4 rfl iw_X4 tyX4_ok dv_X4 rfl (by decide) (Nat.le_of_ble_eq_true rfl) (Nat.le_of_ble_eq_true rfl) (fun q12 => ?_)
  refine g_dup X dX9_init_30 rfl ?_
  refine g_cNR X q_in_X4 q_im_yX4_init q_co_yX4_init (c_X4_init_12_g rfl) dX9_init_31 ⟨(Nat.le_of_ble_eq_true rfl), (Nat.le_of_ble_eq_true rfl)⟩ ⟨(Nat.le_of_ble_eq_true rfl), (Nat.le_of_ble_eq_true rfl)⟩ (Nat.le_of_ble_eq_true rfl) (fun σ' m' hp => ?_)
  obtain ⟨q13, q14, q15, rfl, rfl⟩ := hp
  refine g_putRF X (v := some q12) (tyf := tyX9) 0 8 2 dX9_init_34 (Nat.le_of_ble_eq_true rfl) rfl (by decide) rfl iw_X9 (by decide) rfl q_fl_X9_23 tyX9_ok nmX9 rfl rfl rfl hnm rfl ?_
  refine g_aload_n X 0 dX9_init_37 rfl rfl ?_
  refine g_new X (tyf := tyX0) 0 dX9_init_38 q_kl_X9_16 q_is_X0 q_in_X0 rfl iw_X0 tyX0_ok dv_X0 rfl (by decide) (Nat.le_of_ble_eq_true rfl) (Nat.le_of_ble_eq_true rfl) (fun q16 => ?_)
  refine g_dup X dX9_init_41 rfl ?_
  refine g_cNF X q_in_X0 q_im_yX0_init q_co_yX0_init (c_X0_init_16_g rfl) dX9_init_42 ⟨(Nat.le_of_ble_eq_true rfl), (Nat.le_of_ble_eq_true rfl)⟩ ⟨(Nat.le_of_ble_eq_true rfl), (Nat.le_of_ble_eq_true rfl)⟩ (Nat.le_of_ble_eq_true rfl) (fun σ' m' hp => ?_)
  obtain ⟨q17, q18, q19, q20, q21, q22, rfl, rfl⟩ := hp
  refine g_putRF X (v := some q16) (tyf := tyX9) 0 8 3 dX9_init_45 (Nat.le_of_ble_eq_true rfl) rfl (by decide) rfl iw_X9 (by decide) rfl q_fl_X9_26 tyX9_ok nmX9 rfl rfl rfl hnm rfl ?_
  refine g_aload_n X 0 dX9_init_48 rfl rfl ?_
  refine g_iconst X (v := 0) dX9_init_49 (by decide) ?_
  refine g_putI X (tyf := tyX9) 0 8 4 dX9_init_50 (Nat.le_of_ble_eq_true rfl) rfl (by decide) rfl iw_X9 (by decide) rfl q_fl_X9_29 tyX9_ok nmX9 rfl rfl rfl ?_
  refine g_aload_n X 0 dX9_init_53 rfl rfl ?_
  refine g_new X (tyf := tyX0) 0 dX9_init_54 q_kl_X9_16 q_is_X0 q_in_X0 rfl iw_X0 tyX0_ok dv_X0 rfl (by decide) (Nat.le_of_ble_eq_true rfl) (Nat.le_of_ble_eq_true rfl) (fun q23 => ?_)
  refine g_dup X dX9_init_57 rfl ?_
  refine g_cNF X q_in_X0 q_im_yX0_init q_co_yX0_init (c_X0_init_23_g rfl) dX9_init_58 ⟨(Nat.le_of_ble_eq_true rfl), (Nat.le_of_ble_eq_true rfl)⟩ ⟨(Nat.le_of_ble_eq_true rfl), (Nat.le_of_ble_eq_true rfl)⟩ (Nat.le_of_ble_eq_true rfl) (fun σ' m' hp => ?_)
  obtain ⟨q24, q25, q26, q27, q28, q29, rfl, rfl⟩ := hp
  refine g_putRF X (v := some q23) (tyf := tyX9) 0 8 5 dX9_init_61 (Nat.le_of_ble_eq_true rfl) rfl (by decide) rfl iw_X9 (by decide) rfl q_fl_X9_33 tyX9_ok nmX9 rfl rfl rfl hnm rfl ?_
  refine g_aload_n X 0 dX9_init_64 rfl rfl ?_
  refine g_new X (tyf := tyX3) 2 dX9_init_65 q_kl_X9_36 q_is_X3 q_in_X3 rfl iw_X3 tyX3_ok dv_X3 rfl (by decide) (Nat.le_of_ble_eq_true rfl) (Nat.le_of_ble_eq_true rfl) (fun q30 => ?_)
  refine g_dup X dX9_init_68 rfl ?_
  refine g_cND X q_in_X3 q_im_yX3_init q_co_yX3_init (c_X3_init_30_g rfl) dX9_init_69 ⟨(Nat.le_of_ble_eq_true rfl), (Nat.le_of_ble_eq_true rfl)⟩ ⟨(Nat.le_of_ble_eq_true rfl), (Nat.le_of_ble_eq_true rfl)⟩ (Nat.le_of_ble_eq_true rfl) (fun σ' m' hp => ?_)
  obtain ⟨q31, q32, rfl, rfl⟩ := hp
  refine g_putRF X (v := some q30) (tyf := tyX9) 0 8 6 dX9_init_72 (Nat.le_of_ble_eq_true rfl) rfl (by decide) rfl iw_X9 (by decide) rfl q_fl_X9_39 tyX9_ok nmX9 rfl rfl rfl hnm rfl ?_
  refine g_aload_n X 0 dX9_init_75 rfl rfl ?_
  refine g_new X (tyf := tyX5) 4 dX9_init_76 q_kl_X9_43 q_is_X5 q_in_X5 rfl iw_X5 tyX5_ok dv_X5 rfl (by decide) (Nat.le_of_ble_eq_true rfl) (Nat.le_of_ble_eq_true rfl) (fun q33 => ?_)
  refine g_dup X dX9_init_79 rfl ?_
  refine g_aload_n X 0 dX9_init_80 rfl rfl ?_
  refine g_getr X (x := q1) 0 8 0 dX9_init_81 (Nat.le_of_ble_eq_true rfl) rfl (by decide) rfl iw_X9 (by decide) rfl q_fl_X9_10 rfl ?_
  refine g_cIV X [.ref q1] (n := 1) ⟨q_ml_X9_45, q_im_yX5_init, q_in_X5, q_co_yX5_init, rfl, by decide +kernel⟩ (c_X5_init_33_g (x0 := q1) rfl) dX9_init_84 rfl rfl ⟨(Nat.le_of_ble_eq_true rfl), (Nat.le_of_ble_eq_true rfl)⟩ ⟨(Nat.le_of_ble_eq_true rfl), (Nat.le_of_ble_eq_true rfl)⟩ (Nat.le_of_ble_eq_true rfl) (fun σ' m' hp => ?_)
  obtain ⟨q34, q35, q36, q37, q38, q39, q40, q41, q42, q43, q44, q45, q46, q47, q48, q49, rfl, rfl⟩ := hp
  refine g_putRF X (v := some q33) (tyf := tyX9) 0 8 7 dX9_init_87 (Nat.le_of_ble_eq_true rfl) rfl (by decide) rfl iw_X9 (by decide) rfl q_fl_X9_48 tyX9_ok nmX9 rfl rfl rfl hnm rfl ?_
  refine g_aload_n X 0 dX9_init_90 rfl rfl ?_
  refine g_new X (tyf := tyX2) 1 dX9_init_91 q_kl_X9_52 q_is_X2 q_in_X2 rfl iw_X2 tyX2_ok dv_X2 rfl (by decide) (Nat.le_of_ble_eq_true rfl) (Nat.le_of_ble_eq_true rfl) (fun q50 => ?_)
  refine g_dup X dX9_init_94 rfl ?_
  refine g_aload_n X 0 dX9_init_95 rfl rfl ?_
  refine g_getr X (x := q33) 0 8 7 dX9_init_96 (Nat.le_of_ble_eq_true rfl) rfl (by decide) rfl iw_X9 (by decide) rfl q_fl_X9_48 rfl ?_
  refine g_cIV X [.ref q33] (n := 1) ⟨q_ml_X9_54, q_im_yX2_init, q_in_X2, q_co_yX2_init, rfl, by decide +kernel⟩ (c_X2_init_50_g (x0 := q33) rfl) dX9_init_99 rfl rfl ⟨(Nat.le_of_ble_eq_true rfl), (Nat.le_of_ble_eq_true rfl)⟩ ⟨(Nat.le_of_ble_eq_true rfl), (Nat.le_of_ble_eq_true rfl)⟩ (Nat.le_of_ble_eq_true rfl) (fun σ' m' hp => ?_)
  obtain ⟨rfl, rfl⟩ := hp
  refine g_putRF X (v := some q50) (tyf := tyX9) 0 8 8 dX9_init_102 (Nat.le_of_ble_eq_true rfl) rfl (by decide) rfl iw_X9 (by decide) rfl q_fl_X9_57 tyX9_ok nmX9 rfl rfl rfl hnm rfl ?_
  refine g_aload_n X 0 dX9_init_105 rfl rfl ?_
  refine g_iconst X (v := 4) dX9_init_106 (by decide) ?_
  refine g_newq12 X (N := 4) dX9_init_107 q_kl_X9_61 rfl (by decide) (by decide) (by decide) (Nat.le_of_ble_eq_true rfl) (Nat.le_of_ble_eq_true rfl) (fun q51 => ?_)
  refine g_putRF X (v := some q51) (tyf := tyX9) 0 8 9 dX9_init_110 (Nat.le_of_ble_eq_true rfl) rfl (by decide) rfl iw_X9 (by decide) rfl q_fl_X9_63 tyX9_ok nmX9 rfl rfl rfl hnm rfl ?_
  refine g_aload_n X 0 dX9_init_113 rfl rfl ?_
  refine g_getr X (x := q30) 0 8 6 dX9_init_114 (Nat.le_of_ble_eq_true rfl) rfl (by decide) rfl iw_X9 (by decide) rfl q_fl_X9_39 rfl ?_
  refine g_ldcS0 X dX9_init_117 ?_
  refine g_absM (ν := Mnew m0) rfl ?_
  generalize Mnew m0 = m1 at hW ⊢
  refine g_absS (fun σ1 hσ => ?_)
  have hσ : pR (nS (pR (SX2_init_50 (nS (pR (SX5_init_33 (nS (pR (SX3_init_30 (nS (pR (SX0_init_23 (nS (pR (SX0_init_16 (nS (pR (SX4_init_12 (nS (pR (SX0_init_5 (nS (pR (SX4_init_1 (nS ((ad, 1, R, Z)) q1 0) q2 q3 q4) 0 0 (some q1)) q5 0) q6 q7 q8 q9 q10 q11) 0 1 (some q5)) q12 0) q13 q14 q15) 0 2 (some q12)) q16 0) q17 q18 q19 q20 q21 q22) 0 3 (some q16)) q23 0) q24 q25 q26 q27 q28 q29) 0 5 (some q23)) q30 0) q31 q32) 0 6 (some q30)) q33 0) q1 q34 q35 q36 q37 q38 q39 q40 q41 q42 q43 q44 q45 q46 q47 q48 q49) 0 7 (some q33)) q50 0) q33) 0 8 (some q50)) q51 4) 0 9 (some q51) = σ1 := hσ
  have hw := hW
  have fN : σ1.2.1 = 52 := by rw [← hσ]; rfl
  have f0 : σ1.1 0 = ad 0 := by rw [← hσ]; rfl
  have f30 : σ1.1 30 = q30 := by rw [← hσ]; rfl
  have hRd : RdOk σ1 := by rw [← hσ]; exact ⟨(Nat.le_of_ble_eq_true rfl), rfl, rfl, rfl, rfl⟩
  have r06 : σ1.2.2.1 0 6 = some (σ1.1 30) := by rw [← hσ]; rfl
  have r07 : σ1.2.2.1 0 7 = some (σ1.1 33) := by rw [← hσ]; rfl
  have r09 : σ1.2.2.1 0 9 = some (σ1.1 51) := by rw [← hσ]; rfl
  have r331 : σ1.2.2.1 33 1 = some (σ1.1 34) := by rw [← hσ]; rfl
  have z34 : σ1.2.2.2 34 = 6 := by rw [← hσ]; rfl
  have z51 : σ1.2.2.2 51 = 4 := by rw [← hσ]; rfl
  obtain ⟨ad1, N1, R1, Z1⟩ := σ1
  have fN : N1 = 52 := fN
  subst fN
  rw [← f0, ← f30]
  refine g_eVV X 30 2 [.ref ((gG Γ).2.2 2)] kV_X9_69 (c_X3_write hRd hw) dX9_init_119 rfl rfl (Nat.le_of_ble_eq_true rfl) rfl (by decide) rfl rfl ⟨(Nat.le_of_ble_eq_true rfl), (Nat.le_of_ble_eq_true rfl)⟩ ⟨rfl, rfl⟩ ⟨(Nat.le_of_ble_eq_true rfl), (Nat.le_of_ble_eq_true rfl)⟩ (Nat.le_of_ble_eq_true rfl) ?_
  refine g_aload_n X 0 dX9_init_122 rfl rfl ?_
  refine g_getr X (x := ad1 33) 0 8 7 dX9_init_123 (Nat.le_of_ble_eq_true rfl) rfl (by decide) rfl iw_X9 (by decide) rfl q_fl_X9_48 r07 ?_
  refine g_aload_n X 0 dX9_init_126 rfl rfl ?_
  refine g_getr X (x := ad1 30) 0 8 6 dX9_init_127 (Nat.le_of_ble_eq_true rfl) rfl (by decide) rfl iw_X9 (by decide) rfl q_fl_X9_39 r06 ?_
  refine g_cVQ X 30 2 [] kV_X9_73 (c_X3_read (mB := mB) hRd rfl rfl rfl hRD (fun _ => hT)) dX9_init_130 rfl rfl (Nat.le_of_ble_eq_true rfl) rfl (by decide) rfl rfl ⟨(Nat.le_of_ble_eq_true rfl), (Nat.le_of_ble_eq_true rfl)⟩ ⟨(Nat.le_of_ble_eq_true rfl), (Nat.le_of_ble_eq_true rfl)⟩ (Nat.le_of_ble_eq_true rfl) (fun r σ' m' hp => ?_)
  rcases hp with ⟨c2, -⟩ | ⟨-, q52, q53, q54, rfl, rfl, rfl⟩
  · exact absurd hbad c2
  refine g_cVI X (rm1 := rmX5_add) 33 4 [.ref q52] kV_X9_77 (c_X5_add (σ := pR (pR (nS (nS (nS ((ad1, 52, R1, Z1)) q52 0) q53 (mA.1 30 9).toNatClampNeg) q54 3) 52 1 (some q54)) 52 0 (some q53)) (t := 52) ⟨(Nat.le_of_ble_eq_true rfl), r331, z34⟩ (Nat.le_of_ble_eq_true rfl) rfl s1 s2) dX9_init_133 rfl rfl (Nat.le_of_ble_eq_true rfl) rfl (by decide) rfl rfl ⟨(Nat.le_of_ble_eq_true rfl), (Nat.le_of_ble_eq_true rfl)⟩ ⟨(Nat.le_of_ble_eq_true rfl), (Nat.le_of_ble_eq_true rfl)⟩ (Nat.le_of_ble_eq_true rfl) (fun r σ' m' hp => ?_)
  obtain ⟨rfl, rfl, rfl⟩ := hp
  rw [s3]
  refine g_pop X dX9_init_136 rfl ?_
  refine g_iconst X (v := 0) dX9_init_137 (by decide) ?_
  refine g_istore_n X (lv' := [(1, .int (0 : Int32)), (0, .ref (ad1 0))]) dX9_init_138 rfl (by decide) rfl ?_
  refine g_iload_n X 0 dX9_init_139 rfl rfl ?_
  refine g_iconst X (v := 4) dX9_init_140 (by decide) ?_
  refine g_icmp_ge X (tgt := 163) dX9_init_141 (by decide) (fun c9 => absurd c9 (by decide)) (fun _ => ?_)
  refine g_aload_n X 1 dX9_init_144 rfl rfl ?_
  refine g_getr X (x := ad1 51) 0 8 9 dX9_init_145 (Nat.le_of_ble_eq_true rfl) rfl (by decide) rfl iw_X9 (by decide) rfl q_fl_X9_63 r09 ?_
  refine g_iload_n X 0 dX9_init_148 rfl rfl ?_
  refine g_new X (tyf := tyX6) 5 dX9_init_149 q_kl_X9_61 q_is_X6 q_in_X6 rfl iw_X6 tyX6_ok dv_X6 rfl (by decide) (Nat.le_of_ble_eq_true rfl) (Nat.le_of_ble_eq_true rfl) (fun q55 => ?_)
  refine g_dup X dX9_init_152 rfl ?_
  refine g_cNS X q_in_X6 q_im_yX6_init q_co_yX6_init (c_X6_init_55_g rfl) dX9_init_153 ⟨(Nat.le_of_ble_eq_true rfl), (Nat.le_of_ble_eq_true rfl)⟩ ⟨(Nat.le_of_ble_eq_true rfl), (Nat.le_of_ble_eq_true rfl)⟩ (Nat.le_of_ble_eq_true rfl) (fun σ' m' hp => ?_)
  obtain ⟨q56, rfl, rfl⟩ := hp
  refine g_aast12 X 51 55 (n := 4) dX9_init_156 (Nat.le_of_ble_eq_true rfl) rfl z51 (by show inn _ _; decide) (Nat.le_of_ble_eq_true rfl) rfl ?_
  refine g_iinc X 0 (v := 1) (lv' := [(1, .int (1 : Int32)), (0, .ref (ad1 0))]) dX9_init_157 rfl (by decide) (by decide) rfl ?_
  refine g_goto X (tgt := 139) dX9_init_160 (by decide) ?_
  refine g_iload_n X 0 dX9_init_139 rfl rfl ?_
  refine g_iconst X (v := 4) dX9_init_140 (by decide) ?_
  refine g_icmp_ge X (tgt := 163) dX9_init_141 (by decide) (fun c9 => absurd c9 (by decide)) (fun _ => ?_)
  refine g_aload_n X 1 dX9_init_144 rfl rfl ?_
  refine g_getr X (x := ad1 51) 0 8 9 dX9_init_145 (Nat.le_of_ble_eq_true rfl) rfl (by decide) rfl iw_X9 (by decide) rfl q_fl_X9_63 r09 ?_
  refine g_iload_n X 0 dX9_init_148 rfl rfl ?_
  refine g_new X (tyf := tyX6) 5 dX9_init_149 q_kl_X9_61 q_is_X6 q_in_X6 rfl iw_X6 tyX6_ok dv_X6 rfl (by decide) (Nat.le_of_ble_eq_true rfl) (Nat.le_of_ble_eq_true rfl) (fun q57 => ?_)
  refine g_dup X dX9_init_152 rfl ?_
  refine g_cNS X q_in_X6 q_im_yX6_init q_co_yX6_init (c_X6_init_57_g rfl) dX9_init_153 ⟨(Nat.le_of_ble_eq_true rfl), (Nat.le_of_ble_eq_true rfl)⟩ ⟨(Nat.le_of_ble_eq_true rfl), (Nat.le_of_ble_eq_true rfl)⟩ (Nat.le_of_ble_eq_true rfl) (fun σ' m' hp => ?_)
  obtain ⟨q58, rfl, rfl⟩ := hp
  refine g_aast12 X 51 57 (n := 4) dX9_init_156 (Nat.le_of_ble_eq_true rfl) rfl z51 (by show inn _ _; decide) (Nat.le_of_ble_eq_true rfl) rfl ?_
  refine g_iinc X 0 (v := 2) (lv' := [(1, .int (2 : Int32)), (0, .ref (ad1 0))]) dX9_init_157 rfl (by decide) (by decide) rfl ?_
  refine g_goto X (tgt := 139) dX9_init_160 (by decide) ?_
  refine g_iload_n X 0 dX9_init_139 rfl rfl ?_
  refine g_iconst X (v := 4) dX9_init_140 (by decide) ?_
  refine g_icmp_ge X (tgt := 163) dX9_init_141 (by decide) (fun c9 => absurd c9 (by decide)) (fun _ => ?_)
  refine g_aload_n X 1 dX9_init_144 rfl rfl ?_
  refine g_getr X (x := ad1 51) 0 8 9 dX9_init_145 (Nat.le_of_ble_eq_true rfl) rfl (by decide) rfl iw_X9 (by decide) rfl q_fl_X9_63 r09 ?_
  refine g_iload_n X 0 dX9_init_148 rfl rfl ?_
  refine g_new X (tyf := tyX6) 5 dX9_init_149 q_kl_X9_61 q_is_X6 q_in_X6 rfl iw_X6 tyX6_ok dv_X6 rfl (by decide) (Nat.le_of_ble_eq_true rfl) (Nat.le_of_ble_eq_true rfl) (fun q59 => ?_)
  refine g_dup X dX9_init_152 rfl ?_
  refine g_cNS X q_in_X6 q_im_yX6_init q_co_yX6_init (c_X6_init_59_g rfl) dX9_init_153 ⟨(Nat.le_of_ble_eq_true rfl), (Nat.le_of_ble_eq_true rfl)⟩ ⟨(Nat.le_of_ble_eq_true rfl), (Nat.le_of_ble_eq_true rfl)⟩ (Nat.le_of_ble_eq_true rfl) (fun σ' m' hp => ?_)
  obtain ⟨q60, rfl, rfl⟩ := hp
  refine g_aast12 X 51 59 (n := 4) dX9_init_156 (Nat.le_of_ble_eq_true rfl) rfl z51 (by show inn _ _; decide) (Nat.le_of_ble_eq_true rfl) rfl ?_
  refine g_iinc X 0 (v := 3) (lv' := [(1, .int (3 : Int32)), (0, .ref (ad1 0))]) dX9_init_157 rfl (by decide) (by decide) rfl ?_
  refine g_goto X (tgt := 139) dX9_init_160 (by decide) ?_
  refine g_iload_n X 0 dX9_init_139 rfl rfl ?_
  refine g_iconst X (v := 4) dX9_init_140 (by decide) ?_
  refine g_icmp_ge X (tgt := 163) dX9_init_141 (by decide) (fun c9 => absurd c9 (by decide)) (fun _ => ?_)
  refine g_aload_n X 1 dX9_init_144 rfl rfl ?_
  refine g_getr X (x := ad1 51) 0 8 9 dX9_init_145 (Nat.le_of_ble_eq_true rfl) rfl (by decide) rfl iw_X9 (by decide) rfl q_fl_X9_63 r09 ?_
  refine g_iload_n X 0 dX9_init_148 rfl rfl ?_
  refine g_new X (tyf := tyX6) 5 dX9_init_149 q_kl_X9_61 q_is_X6 q_in_X6 rfl iw_X6 tyX6_ok dv_X6 rfl (by decide) (Nat.le_of_ble_eq_true rfl) (Nat.le_of_ble_eq_true rfl) (fun q61 => ?_)
  refine g_dup X dX9_init_152 rfl ?_
  refine g_cNS X q_in_X6 q_im_yX6_init q_co_yX6_init (c_X6_init_61_g rfl) dX9_init_153 ⟨(Nat.le_of_ble_eq_true rfl), (Nat.le_of_ble_eq_true rfl)⟩ ⟨(Nat.le_of_ble_eq_true rfl), (Nat.le_of_ble_eq_true rfl)⟩ (Nat.le_of_ble_eq_true rfl) (fun σ' m' hp => ?_)
  obtain ⟨q62, rfl, rfl⟩ := hp
  refine g_aast12 X 51 61 (n := 4) dX9_init_156 (Nat.le_of_ble_eq_true rfl) rfl z51 (by show inn _ _; decide) (Nat.le_of_ble_eq_true rfl) rfl ?_
  refine g_iinc X 0 (v := 4) (lv' := [(1, .int (4 : Int32)), (0, .ref (ad1 0))]) dX9_init_157 rfl (by decide) (by decide) rfl ?_
  refine g_goto X (tgt := 139) dX9_init_160 (by decide) ?_
  refine g_iload_n X 0 dX9_init_139 rfl rfl ?_
  refine g_iconst X (v := 4) dX9_init_140 (by decide) ?_
  refine g_icmp_ge X (tgt := 163) dX9_init_141 (by decide) (fun _ => ?_) (fun c9 => absurd c9 (by decide))
  have hag : Agr 63 (Snew ad R Z (mA.1 30 9).toNatClampNeg q1 q2 q3 q4 q5 q6 q7 q8 q9 q10 q11 q12 q13 q14 q15 q16 q17 q18 q19 q20 q21 q22 q23 q24 q25 q26 q27 q28 q29 q30 q31 q32 q33 q34 q35 q36 q37 q38 q39 q40 q41 q42 q43 q44 q45 q46 q47 q48 q49 q50 q51 q52 q53 q54 q55 q56 q57 q58 q59 q60 q61 q62) z := ag_all hz
  unfold Snew at hag
  rw [hσ] at hag
  exact hr 163 _ _ _ dX9_init_163 ⟨rfl, f0, hag, rfl⟩
