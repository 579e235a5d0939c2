theorem kV_X9_73 : wcV RX9 73 RX3 yX3_read cX3_read 3 (some (.object "PaidInKind$Text")) 0 := ⟨q_ml_X9_73, q_im_yX3_read, q_se_yX3_read, q_in_X3, q_co_yX3_read, by decide +kernel⟩
theorem kV_X9_77 : wcV RX9 77 RX5 yX5_add cX5_add 2 (some .int) 1 := ⟨q_ml_X9_77, q_im_yX5_add, q_se_yX5_add, q_in_X5, q_co_yX5_add, by decide +kernel⟩
abbrev rmX9_text : Room := { frames := 120, cells := 3, slots := 167, locals := 4800 }
def txPost (ad : Nat → Nat) (nt : Nat) (z : Nat → Nat) (mA mB : Mem) : Int32 → St → Mem → Prop := fun r σ' m' => (¬ mA.1 30 2 = -1 ∧ r = -100 - mA.1 30 2 ∧ σ' = sg ad nt z ∧ m' = mA) ∨ (mA.1 30 2 = -1 ∧ r = mB.1 33 2 ∧ m' = pI mB 33 2 (mB.1 33 2 + 1) ∧ ∃ ad' : Nat → Nat, (∀ i, i < 79 → ad' i = ad i) ∧ σ' = sg ad' (nt + 1) (va_up z (nt + 1) (mA.1 30 9).toNatClampNeg))
set_option maxRecDepth 100000 in
set_option maxHeartbeats 4000000 in
theorem c_X9_text_full {l : Launch} {G : GG} {b : Nat} {ad : Nat → Nat} {nt : Nat} {z : Nat → Nat} {m0 : Mem} (h : 6 ≤ m0.1 33 2) : MtI l yX9_text cX9_text 2 (some .int) rmX9_text G b (sg ad nt z) m0 [.ref (ad 0)] (pEI (-4) (sg ad nt z) m0) := by
  refine mtI_of (by decide) (Nat.le_of_ble_eq_true rfl) .int rfl (fun Γ hG X hnm hr => ?_)
  show Go Γ b (sg ad nt z) 0 0 0 [(0, .ref (ad 0))] [] m0
  refine g_aload_n X 0 dX9_text_0 rfl rfl ?_
  refine g_getr X (x := ad 33) 0 8 7 dX9_text_1 (sgN (by decide)) rfl (by decide) rfl iw_X9 (by decide) rfl q_fl_X9_48 rfl ?_
  refine g_getI X 33 4 2 dX9_text_4 (sgN (by decide)) rfl (by decide) rfl iw_X5 (by decide) rfl q_fl_X9_142 ?_
  refine g_bipush X (v := 6) dX9_text_7 (by decide) ?_
  refine g_icmp_lt X (tgt := 15) dX9_text_9 (by decide) (fun c => absurd h (Int32.not_le.mpr c)) (fun c => ?_)
  refine g_bipush X (v := -4) dX9_text_12 (by decide) ?_
  refine g_widen (k := 3) (n := 167) (by decide) (by decide) ?_
  exact hr 14 _ _ _ _ dX9_text_14 ⟨rfl, rfl, rfl⟩ rfl
set_option maxRecDepth 100000 in
set_option maxHeartbeats 4000000 in
theorem c_X9_text_go {l : Launch} {G : GG} {b : Nat} {ad : Nat → Nat} {nt : Nat} {z : Nat → Nat} {m0 mA mB : Mem} {r8 r9 : Int32} (h : ¬ 6 ≤ m0.1 33 2) (hf : X3_read m0 = some ((r8, r9), mA)) (hT : mA.1 30 2 = -1 → (¬ mA.1 30 9 < 0 ∧ mA.1 30 9 < 160 ∧ (mA.1 30 9).toNatClampNeg < 160 ∧ X7_init (79 + 3 * nt) (mA.1 30 9).toNatClampNeg r8 r9 (nM (pC (nM (nM mA (79 + 3 * nt)) (79 + 3 * nt + 1)) 32 (79 + 3 * nt + 1) 0 0 (mA.1 30 9).toNatClampNeg) (79 + 3 * nt + 2)) = some mB) ∧ ¬ 6 ≤ mB.1 33 2 ∧ inn (mB.1 33 2) 6 ∧ (mB.1 33 2).toNatClampNeg = nt + 1) : MtI l yX9_text cX9_text 2 (some .int) rmX9_text G b (sg ad nt z) m0 [.ref (ad 0)] (txPost ad nt z mA mB) := by
  refine mtI_of (by decide) (Nat.le_of_ble_eq_true rfl) .int rfl (fun Γ hG X hnm hr => ?_)
  subst hG
  show Go Γ b (sg ad nt z) 0 0 0 [(0, .ref (ad 0))] [] m0
  have kk := kd_t (k := nt + 1) (Nat.succ_pos _)
  rw [show 76 + 3 * (nt + 1) = 79 + 3 * nt by omega] at kk
  refine g_aload_n X 0 dX9_text_0 rfl rfl ?_
  refine g_getr X (x := ad 33) 0 8 7 dX9_text_1 (sgN (by decide)) rfl (by decide) rfl iw_X9 (by decide) rfl q_fl_X9_48 rfl ?_
  refine g_getI X 33 4 2 dX9_text_4 (sgN (by decide)) rfl (by decide) rfl iw_X5 (by decide) rfl q_fl_X9_142 ?_
  refine g_bipush X (v := 6) dX9_text_7 (by decide) ?_
  refine g_icmp_lt X (tgt := 15) dX9_text_9 (by decide) (fun c => ?_) (fun c => absurd (Int32.not_lt.mp c) h)
  refine g_aload_n X 0 dX9_text_15 rfl rfl ?_
  refine g_getr X (x := ad 30) 0 8 6 dX9_text_16 (sgN (by decide)) rfl (by decide) rfl iw_X9 (by decide) rfl q_fl_X9_39 rfl ?_
  refine g_cVQ X 30 2 [] kV_X9_73 (c_X3_read (mB := mB) rdSg kk.1 kk.2.1 kk.2.2 hf (fun e => (hT e).1)) dX9_text_19 rfl rfl (sgN (by decide)) rfl (by decide) rfl rfl ⟨(Nat.le_of_ble_eq_true rfl), (Nat.le_of_ble_eq_true rfl)⟩ ⟨by decide, by decide⟩ (Nat.le_of_ble_eq_true rfl) (fun r σ' m' hp => ?_)
  rcases hp with ⟨c2, rfl, rfl, rfl⟩ | ⟨c2, q1, q2, q3, rfl, rfl, rfl⟩
  · refine g_astore_nN X (lv' := [(1, .null), (0, .ref (ad 0))]) dX9_text_22 rfl (by decide) rfl ?_
    refine g_aload_nN X 0 dX9_text_23 rfl rfl ?_
    refine g_ifnonnullN X dX9_text_24 ?_
    refine g_bipush X (v := -100) dX9_text_27 (by decide) ?_
    refine g_aload_n X 1 dX9_text_29 rfl rfl ?_
    refine g_getr X (x := ad 30) 0 8 6 dX9_text_30 (sgN (by decide)) rfl (by decide) rfl iw_X9 (by decide) rfl q_fl_X9_39 rfl ?_
    refine g_getI X 30 2 2 dX9_text_33 (sgN (by decide)) rfl (by decide) rfl iw_X3 (by decide) rfl q_fl_X9_145 ?_
    refine g_isub X dX9_text_36 ?_
    exact hr 37 _ _ _ _ dX9_text_37 (Or.inl ⟨c2, rfl, rfl, rfl⟩) rfl
  · obtain ⟨-, s1, s2, s3⟩ := hT c2
    have adl : ∀ i, i < 79 + 3 * nt → va_up (va_up (va_up ad (79 + 3 * nt) q1) (79 + 3 * nt + 1) q2) (79 + 3 * nt + 2) q3 i = ad i := by
      intro i hi
      rw [va_up_ne _ _ (by omega), va_up_ne _ _ (by omega), va_up_ne _ _ (by omega)]
    generalize hS : pR (pR (nS (nS (nS (sg ad nt z) q1 0) q2 (mA.1 30 9).toNatClampNeg) q3 3) (sg ad nt z).2.1 1 (some q3)) (sg ad nt z).2.1 0 (some q2) = S3
    have a0 : S3.1 0 = ad 0 := by rw [← hS]; exact adl 0 (by omega)
    have a33 : S3.1 33 = ad 33 := by rw [← hS]; exact adl 33 (by omega)
    have a34 : S3.1 34 = ad 34 := by rw [← hS]; exact adl 34 (by omega)
    have aN : S3.1 (79 + 3 * nt) = q1 := by
      rw [← hS]
      show va_up (va_up (va_up ad (79 + 3 * nt) q1) (79 + 3 * nt + 1) q2) (79 + 3 * nt + 1 + 1) q3 (79 + 3 * nt) = q1
      rw [va_up_ne _ _ (by omega), va_up_ne _ _ (by omega), va_up_self]
    have hN : S3.2.1 = 79 + 3 * nt + 1 + 1 + 1 := by rw [← hS]; rfl
    have hr9 : ∀ a k, a < 79 → S3.2.2.1 a k = (rt nt a k).map ad := by
      intro a k ha
      rw [← hS, pR_rn (show a ≠ 79 + 3 * nt by omega), pR_rn (show a ≠ 79 + 3 * nt by omega), nS_r (show a < 79 + 3 * nt + 1 + 1 by omega), nS_r (show a < 79 + 3 * nt + 1 by omega), nS_r (show a < 79 + 3 * nt by omega)]
    have hz34 : S3.2.2.2 34 = 6 := by
      rw [← hS]
      show va_up (va_up (va_up (ln z) (79 + 3 * nt) 0) (79 + 3 * nt + 1) (mA.1 30 9).toNatClampNeg) (79 + 3 * nt + 1 + 1) 3 34 = 6
      rw [va_up_ne _ _ (by omega), va_up_ne _ _ (by omega), va_up_ne _ _ (by omega)]; rfl
    refine g_astore_n X (lv' := [(1, .ref q1), (0, .ref (ad 0))]) dX9_text_22 rfl (by decide) rfl ?_
    refine g_aload_n X 0 dX9_text_23 rfl rfl ?_
    refine g_ifnonnull X (tgt := 38) dX9_text_24 (by decide) ?_
    rw [← a0, ← aN]
    refine g_aload_n X 1 dX9_text_38 rfl rfl ?_
    refine g_getr X (x := S3.1 33) 0 8 7 dX9_text_39 (by omega) rfl (by decide) rfl iw_X9 (by decide) rfl q_fl_X9_48 (by rw [hr9 0 7 (by decide), a33]; rfl) ?_
    refine g_aload_n X 0 dX9_text_42 rfl rfl ?_
    refine g_cVI X 33 4 [.ref (S3.1 (79 + 3 * nt))] kV_X9_77 (c_X5_add (σ := S3) ⟨by omega, by rw [hr9 33 1 (by decide), a34]; rfl, hz34⟩ (by omega) kk.1 s1 s2) dX9_text_43 rfl rfl (by omega) rfl (by decide) rfl rfl ⟨(Nat.le_of_ble_eq_true rfl), (Nat.le_of_ble_eq_true rfl)⟩ ⟨by decide, by decide⟩ (Nat.le_of_ble_eq_true rfl) (fun r σ' m' hp => ?_)
    obtain ⟨rfl, rfl, rfl⟩ := hp
    rw [s3, aN]
    refine g_cong (τ := sg (va_up (va_up (va_up ad (79 + 3 * nt) q1) (79 + 3 * nt + 1) q2) (79 + 3 * nt + 2) q3) (nt + 1) (va_up z (nt + 1) (mA.1 30 9).toNatClampNeg)) (fun G => by rw [← hS]; exact text_world G) ?_
    exact hr 46 _ _ _ _ dX9_text_46 (Or.inr ⟨c2, rfl, rfl, _, fun i hi => adl i (by omega), rfl⟩) rfl
