theorem fit_z {r : Int32} (h : r = 0 ∨ r = 1) : fits .boolean (.int r) = true := by rcases h with rfl | rfl <;> rfl
theorem nS_ad {σ : St} {q n a : Nat} (h : a < σ.2.1) : (nS σ q n).1 a = σ.1 a := va_up_ne _ _ (Nat.ne_of_lt h)
theorem nS_r {σ : St} {q n a : Nat} (h : a < σ.2.1) : (nS σ q n).2.2.1 a = σ.2.2.1 a := va_up_ne _ _ (Nat.ne_of_lt h)
theorem nS_z {σ : St} {q n a : Nat} (h : a < σ.2.1) : (nS σ q n).2.2.2 a = σ.2.2.2 a := va_up_ne _ _ (Nat.ne_of_lt h)
theorem nS_q {σ : St} {q n : Nat} : (nS σ q n).1 σ.2.1 = q := va_up_self _ _ _
theorem nS_len {σ : St} {q n : Nat} : (nS σ q n).2.2.2 σ.2.1 = n := va_up_self _ _ _
theorem RdOk.nS {σ : St} {q n : Nat} (h : RdOk σ) : RdOk (nS σ q n) := by
  have l30 := rd_lt h (a := 30) (by decide)
  have l31 := rd_lt h (a := 31) (by decide)
  have l32 := rd_lt h (a := 32) (by decide)
  refine ⟨Nat.lt_succ_of_lt h.1, ?_, ?_, ?_, ?_⟩
  · rw [nS_r l30, nS_ad l31]; exact h.2.1
  · rw [nS_r l30, nS_ad l32]; exact h.2.2.1
  · rw [nS_z l31]; exact h.2.2.2.1
  · rw [nS_z l32]; exact h.2.2.2.2
/-! Arrays.copyOf of the Reader's code -/
abbrev rmCopy : Room := { frames := 1, cells := 1, slots := 160, locals := 60 }
set_option maxHeartbeats 4000000 in
theorem c_copyOf {l : Launch} {G : GG} {b : Nat} {σ : St} (hRd : RdOk σ) (hkd : kd σ.2.1 = 10) {m0 : Mem} {n : Int32} (h0 : ¬ n < 0) (h1 : n < 160) (h2 : n.toNatClampNeg < 160) : MtQ l yJ7_copyOf_59c91 cJ7_copyOf_59c91 3 (some (.array .int)) rmCopy G b σ m0 [.ref (σ.1 32), .int n] (fun r σ' m' => ∃ q, r = some q ∧ σ' = nS σ q n.toNatClampNeg ∧ m' = pC (nM m0 σ.2.1) 32 σ.2.1 0 0 n.toNatClampNeg) := by
  refine mtQ_of (by decide) (Nat.le_of_ble_eq_true rfl) (.array .int) rfl (Or.inr ⟨_, rfl⟩) (fun Γ hG X hnm hr => ?_)
  show Go Γ b σ 0 0 0 [(0, .ref (σ.1 32)), (1, .int n)] [] m0
  have l32 : 32 < σ.2.1 := rd_lt hRd (by decide)
  refine g_iload_n X 1 dJ7_copyOf_59c91_0 rfl rfl ?_
  refine g_aload_n X 0 dJ7_copyOf_59c91_1 rfl rfl ?_
  refine g_alen X 32 10 (n := 160) (v := 160) dJ7_copyOf_59c91_2 l32 rfl rfl hRd.2.2.2.2 rfl ?_
  refine g_icmp_ne X (tgt := 14) dJ7_copyOf_59c91_3 (by decide) (fun c3 => ?_) (fun c3 => absurd h1 (by rw [c3]; decide))
  refine g_iload_n X 1 dJ7_copyOf_59c91_14 rfl rfl ?_
  refine g_newaI X (N := n.toNatClampNeg) dJ7_copyOf_59c91_15 q_ac_int hkd h0 rfl (by omega) (by decide) (by show 0 + n.toNatClampNeg ≤ 160; omega) (fun q => ?_)
  have e32 : σ.1 32 = (nS σ q n.toNatClampNeg).1 32 := (nS_ad l32).symm
  have eq9 : q = (nS σ q n.toNatClampNeg).1 σ.2.1 := nS_q.symm
  have hR2 := hRd.nS (q := q) (n := n.toNatClampNeg)
  refine g_astore_n X (lv' := [(2, .ref q), (0, .ref (σ.1 32)), (1, .int n)]) dJ7_copyOf_59c91_17 rfl (by decide) rfl ?_
  refine g_aload_n X 1 dJ7_copyOf_59c91_18 rfl rfl ?_
  refine g_iconst X (v := 0) dJ7_copyOf_59c91_19 (by decide) ?_
  refine g_aload_n X 0 dJ7_copyOf_59c91_20 rfl rfl ?_
  refine g_iconst X (v := 0) dJ7_copyOf_59c91_21 (by decide) ?_
  refine g_aload_n X 1 dJ7_copyOf_59c91_22 rfl rfl ?_
  have hA : ∀ stk, Go Γ b (nS σ q n.toNatClampNeg) (0 + 1) (0 + n.toNatClampNeg) 23 [(2, .ref q), (0, .ref (σ.1 32)), (1, .int n)] (.ref ((nS σ q n.toNatClampNeg).1 32) :: stk) (nM m0 σ.2.1) → Go Γ b (nS σ q n.toNatClampNeg) (0 + 1) (0 + n.toNatClampNeg) 23 [(2, .ref q), (0, .ref (σ.1 32)), (1, .int n)] (.ref (σ.1 32) :: stk) (nM m0 σ.2.1) := fun stk h => by rw [nS_ad l32] at h; exact h
  refine hA _ ?_
  refine g_alen X 32 10 (n := 160) (v := 160) dJ7_copyOf_59c91_23 (rd_lt hR2 (by decide)) rfl rfl hR2.2.2.2.2 rfl ?_
  refine g_iload_n X 2 dJ7_copyOf_59c91_24 rfl rfl ?_
  refine g_mmin X dJ7_copyOf_59c91_25 q_ml_J7_304 q_st_yJ9_min_7cf53 q_in_J9 q_co_yJ9_min_7cf53 (by decide) (Nat.le_of_ble_eq_true rfl) ⟨by decide, by show 0 + n.toNatClampNeg ≤ 160; omega⟩ ?_
  rw [if_pos h1]
  have hB : Go Γ b (nS σ q n.toNatClampNeg) (0 + 1) (0 + n.toNatClampNeg) 28 [(2, .ref q), (0, .ref (σ.1 32)), (1, .int n)] [.int n, .int 0, .ref ((nS σ q n.toNatClampNeg).1 σ.2.1), .int 0, .ref ((nS σ q n.toNatClampNeg).1 32)] (nM m0 σ.2.1) → Go Γ b (nS σ q n.toNatClampNeg) (0 + 1) (0 + n.toNatClampNeg) 28 [(2, .ref q), (0, .ref (σ.1 32)), (1, .int n)] [.int n, .int 0, .ref q, .int 0, .ref (σ.1 32)] (nM m0 σ.2.1) := fun h => by rw [nS_q, nS_ad l32] at h; exact h
  refine hB ?_
  refine g_copyi X 32 σ.2.1 (na := 160) (nc := n.toNatClampNeg) dJ7_copyOf_59c91_28 q_ml_J7_150 q_native_copy q_static_copy q_in_Sys (rd_lt hR2 (by decide)) rfl hR2.2.2.2.2 (Nat.lt_succ_self _) hkd nS_len (by decide) (by decide) h0 (by show 0 + n.toNatClampNeg ≤ 160; omega) (by show 0 + n.toNatClampNeg ≤ n.toNatClampNeg; omega) (by decide) (by decide) ?_
  refine g_aload_n X 0 dJ7_copyOf_59c91_31 rfl rfl ?_
  refine g_widen (k := 1) (n := 160) (by decide) (by omega) ?_
  exact hr 32 _ (some q) _ _ dJ7_copyOf_59c91_32 ⟨q, rfl, rfl, rfl⟩
/-! Text.<init>, behind its two references -/
def TiOk (σ : St) (t n : Nat) : Prop := t + 2 < σ.2.1 ∧ kd t = 6 ∧ kd (t + 1) = 10 ∧ kd (t + 2) = 10 ∧ σ.2.2.1 t 1 = some (σ.1 (t + 2)) ∧ σ.2.2.2 (t + 1) = n ∧ σ.2.2.2 (t + 2) = 3
theorem K_lt0 {σ : St} {t n : Nat} (h : TiOk σ t n) : t < σ.2.1 := by have := h.1; omega
theorem K_lt1 {σ : St} {t n : Nat} (h : TiOk σ t n) : t + 1 < σ.2.1 := by have := h.1; omega
theorem K_lt2 {σ : St} {t n : Nat} (h : TiOk σ t n) : t + 2 < σ.2.1 := h.1
theorem K_kd0 {σ : St} {t n : Nat} (h : TiOk σ t n) : kd t = 6 := h.2.1
theorem K_kd1 {σ : St} {t n : Nat} (h : TiOk σ t n) : kd (t + 1) = 10 := h.2.2.1
theorem K_kd2 {σ : St} {t n : Nat} (h : TiOk σ t n) : kd (t + 2) = 10 := h.2.2.2.1
def X7_init_78 (t : Nat) (n9 : Nat) (k47 : Int32 → Int32 → Int32 → Mem → Option (Mem)) (v4 : Int32) (v5 : Int32) (v6 : Int32) (m0 : Mem) : Option (Mem) :=
  k47 v4 v5 (v6 + (1 : Int32)) m0
def X7_init_66 (t : Nat) (n9 : Nat) (k47 : Int32 → Int32 → Int32 → Mem → Option (Mem)) (v4 : Int32) (v5 : Int32) (v6 : Int32) (m0 : Mem) : Option (Mem) :=
  if inn v6 n9 then
  if (m0.1 (t + 1) v6.toNatClampNeg) = (-6 : Int32) then
    X7_init_78 t n9 k47 v4 (1 : Int32) v6 m0
  else
    X7_init_78 t n9 k47 v4 v5 v6 m0
  else none
def X7_init_47 (t : Nat) (n9 : Nat) : Nat → Int32 → Int32 → Int32 → Mem → Option (Mem)
  | 0, _, _, _, _ => none
  | n + 1, v4, v5, v6, m0 =>
    if (Int32.ofNat n9) ≤ v6 then
      if v4 = 0 ∨ v4 = 1 then
      if v5 = 0 ∨ v5 = 1 then
      some (pI (pI m0 t 2 v4) t 3 v5)
      else none
      else none
    else
      if inn v6 n9 then
      if (m0.1 (t + 1) v6.toNatClampNeg) = (-3 : Int32) then
        X7_init_66 t n9 (X7_init_47 t n9 n) (1 : Int32) v5 v6 m0
      else
        X7_init_66 t n9 (X7_init_47 t n9 n) v4 v5 v6 m0
      else none
def X7_init_16 (t : Nat) (n9 : Nat) (v2 : Int32) (v3 : Int32) (m0 : Mem) : Option (Mem) :=
  if inn (0 : Int32) 3 then
  if inn (1 : Int32) 3 then
  if inn (2 : Int32) 3 then
  X7_init_47 t n9 10000 (0 : Int32) (0 : Int32) (0 : Int32) (pI (pI (pI m0 (t + 2) (0 : Int32).toNatClampNeg v2) (t + 2) (1 : Int32).toNatClampNeg v3) (t + 2) (2 : Int32).toNatClampNeg (Int32.ofNat n9))
  else none
  else none
  else none
def X7_init (t : Nat) (n9 : Nat) (p1 : Int32) (p2 : Int32) (m0 : Mem) : Option (Mem) :=
  X7_init_16 t n9 p1 p2 m0
abbrev rmX7_init : Room := { frames := 1, cells := 1, slots := 3, locals := 60 }
set_option maxRecDepth 100000 in
set_option maxHeartbeats 4000000 in
theorem w_X7_init_78 {Γ : Ga} {b : Nat} {σ : St} {t n9 : Nat} {k47 : Int32 → Int32 → Int32 → Mem → Option (Mem)} {m9 : Mem} (ht9 : TiOk σ t n9) (hnm : Γ.2.2.2.2.2.2.2.2.1.name = "<init>") (X : Cx Γ b cX7_init 7 RX7 (none) rmX7_init) (hret : ∀ (pc : Nat) (lv : List (Nat × Value)), decode cX7_init pc = .ok (.return_, 1) → Go Γ b σ 1 3 pc lv [] m9) (hk47 : ∀ (v4 : Int32) (v5 : Int32) (v6 : Int32) (m0 : Mem), k47 v4 v5 v6 m0 = some m9 → Go Γ b σ 1 3 47 [(0, .ref (σ.1 t)), (1, .ref (σ.1 (t + 1))), (4, .int v4), (5, .int v5), (6, .int v6)] [] m0) (v4 : Int32) (v5 : Int32) (v6 : Int32) (m0 : Mem) (hf : X7_init_78 t n9 k47 v4 v5 v6 m0 = some m9) : Go Γ b σ 1 3 78 [(0, .ref (σ.1 t)), (1, .ref (σ.1 (t + 1))), (4, .int v4), (5, .int v5), (6, .int v6)] [] m0 := by
  refine g_iinc X 4 (v := v6 + (1 : Int32)) (lv' := [(6, .int (v6 + (1 : Int32))), (0, .ref (σ.1 t)), (1, .ref (σ.1 (t + 1))), (4, .int v4), (5, .int v5)]) dX7_init_78 rfl rfl (by decide) rfl ?_
  refine g_goto X (tgt := 47) dX7_init_81 (by decide) ?_
  refine g_pick [1, 2, 3, 4, 0] (lv' := [(0, .ref (σ.1 t)), (1, .ref (σ.1 (t + 1))), (4, .int v4), (5, .int v5), (6, .int (v6 + (1 : Int32)))]) rfl ?_
  exact hk47 v4 v5 (v6 + (1 : Int32)) m0 hf
set_option maxRecDepth 100000 in
set_option maxHeartbeats 4000000 in
theorem w_X7_init_66 {Γ : Ga} {b : Nat} {σ : St} {t n9 : Nat} {k47 : Int32 → Int32 → Int32 → Mem → Option (Mem)} {m9 : Mem} (ht9 : TiOk σ t n9) (hnm : Γ.2.2.2.2.2.2.2.2.1.name = "<init>") (X : Cx Γ b cX7_init 7 RX7 (none) rmX7_init) (hret : ∀ (pc : Nat) (lv : List (Nat × Value)), decode cX7_init pc = .ok (.return_, 1) → Go Γ b σ 1 3 pc lv [] m9) (hk47 : ∀ (v4 : Int32) (v5 : Int32) (v6 : Int32) (m0 : Mem), k47 v4 v5 v6 m0 = some m9 → Go Γ b σ 1 3 47 [(0, .ref (σ.1 t)), (1, .ref (σ.1 (t + 1))), (4, .int v4), (5, .int v5), (6, .int v6)] [] m0) (v4 : Int32) (v5 : Int32) (v6 : Int32) (m0 : Mem) (hf : X7_init_66 t n9 k47 v4 v5 v6 m0 = some m9) : Go Γ b σ 1 3 66 [(0, .ref (σ.1 t)), (1, .ref (σ.1 (t + 1))), (4, .int v4), (5, .int v5), (6, .int v6)] [] m0 := by
  refine g_aload_n X 1 dX7_init_66 rfl rfl ?_
  refine g_iload X 4 dX7_init_67 rfl ?_
  obtain ⟨h69, hf⟩ := grd hf
  refine g_iald X (t + 1) (n := n9) dX7_init_69 (K_lt1 ht9) (K_kd1 ht9) ht9.2.2.2.2.2.1 h69 ?_
  refine g_bipush X (v := -6) dX7_init_70 (by decide) ?_
  refine g_icmp_ne X (tgt := 78) dX7_init_72 (by decide) (fun c72 => ?_) (fun c72 => ?_)
  · have hf := ie c72 hf
    exact w_X7_init_78 ht9 hnm X hret hk47 v4 v5 v6 m0 hf
  · have hf := it c72 hf
    refine g_iconst X (v := 1) dX7_init_75 (by decide) ?_
    refine g_istore X (lv' := [(5, .int (1 : Int32)), (0, .ref (σ.1 t)), (1, .ref (σ.1 (t + 1))), (4, .int v4), (6, .int v6)]) dX7_init_76 (by decide) rfl ?_
    refine g_pick [1, 2, 3, 0, 4] (lv' := [(0, .ref (σ.1 t)), (1, .ref (σ.1 (t + 1))), (4, .int v4), (5, .int (1 : Int32)), (6, .int v6)]) rfl ?_
    exact w_X7_init_78 ht9 hnm X hret hk47 v4 (1 : Int32) v6 m0 hf
set_option maxRecDepth 100000 in
set_option maxHeartbeats 4000000 in
theorem w_X7_init_47 {Γ : Ga} {b : Nat} {σ : St} {t n9 : Nat} {m9 : Mem} (ht9 : TiOk σ t n9) (hnm : Γ.2.2.2.2.2.2.2.2.1.name = "<init>") (X : Cx Γ b cX7_init 7 RX7 (none) rmX7_init) (hret : ∀ (pc : Nat) (lv : List (Nat × Value)), decode cX7_init pc = .ok (.return_, 1) → Go Γ b σ 1 3 pc lv [] m9) : ∀ (n : Nat) (v4 : Int32) (v5 : Int32) (v6 : Int32) (m0 : Mem), X7_init_47 t n9 n v4 v5 v6 m0 = some m9 → Go Γ b σ 1 3 47 [(0, .ref (σ.1 t)), (1, .ref (σ.1 (t + 1))), (4, .int v4), (5, .int v5), (6, .int v6)] [] m0 := by
  intro n
  induction n with
  | zero =>
    intro v4 v5 v6 m0 hf
    cases hf
  | succ n ih =>
    intro v4 v5 v6 m0 hf
    refine g_iload X 4 dX7_init_47 rfl ?_
    refine g_aload_n X 1 dX7_init_49 rfl rfl ?_
    refine g_alen X (t + 1) 10 (n := n9) dX7_init_50 (K_lt1 ht9) (K_kd1 ht9) rfl ht9.2.2.2.2.2.1 rfl ?_
    refine g_icmp_ge X (tgt := 84) dX7_init_51 (by decide) (fun c51 => ?_) (fun c51 => ?_)
    · have hf := it c51 hf
      refine g_aload_n X 0 dX7_init_84 rfl rfl ?_
      refine g_iload X 2 dX7_init_85 rfl ?_
      obtain ⟨z87, hf⟩ := grd hf
      refine g_putIF X (tyf := tyX7) t 6 2 dX7_init_87 (K_lt0 ht9) (K_kd0 ht9) (by decide) rfl iw_X7 (by decide) rfl q_fl_X7_16 tyX7_ok nmX7 rfl (nw_z z87) (fit_z z87) hnm rfl ?_
      refine g_aload_n X 0 dX7_init_90 rfl rfl ?_
      refine g_iload X 3 dX7_init_91 rfl ?_
      obtain ⟨z93, hf⟩ := grd hf
      refine g_putIF X (tyf := tyX7) t 6 3 dX7_init_93 (K_lt0 ht9) (K_kd0 ht9) (by decide) rfl iw_X7 (by decide) rfl q_fl_X7_20 tyX7_ok nmX7 rfl (nw_z z93) (fit_z z93) hnm rfl ?_
      obtain rfl := lf1 hf
      exact hret 96 _ dX7_init_96
    · have hf := ie c51 hf
      refine g_aload_n X 1 dX7_init_54 rfl rfl ?_
      refine g_iload X 4 dX7_init_55 rfl ?_
      obtain ⟨h57, hf⟩ := grd hf
      refine g_iald X (t + 1) (n := n9) dX7_init_57 (K_lt1 ht9) (K_kd1 ht9) ht9.2.2.2.2.2.1 h57 ?_
      refine g_bipush X (v := -3) dX7_init_58 (by decide) ?_
      refine g_icmp_ne X (tgt := 66) dX7_init_60 (by decide) (fun c60 => ?_) (fun c60 => ?_)
      · have hf := ie c60 hf
        exact w_X7_init_66 ht9 hnm X hret ih v4 v5 v6 m0 hf
      · have hf := it c60 hf
        refine g_iconst X (v := 1) dX7_init_63 (by decide) ?_
        refine g_istore X (lv' := [(4, .int (1 : Int32)), (0, .ref (σ.1 t)), (1, .ref (σ.1 (t + 1))), (5, .int v5), (6, .int v6)]) dX7_init_64 (by decide) rfl ?_
        refine g_pick [1, 2, 0, 3, 4] (lv' := [(0, .ref (σ.1 t)), (1, .ref (σ.1 (t + 1))), (4, .int (1 : Int32)), (5, .int v5), (6, .int v6)]) rfl ?_
        exact w_X7_init_66 ht9 hnm X hret ih (1 : Int32) v5 v6 m0 hf
set_option maxRecDepth 100000 in
set_option maxHeartbeats 4000000 in
theorem w_X7_init_16 {Γ : Ga} {b : Nat} {σ : St} {t n9 : Nat} {m9 : Mem} (ht9 : TiOk σ t n9) (hnm : Γ.2.2.2.2.2.2.2.2.1.name = "<init>") (X : Cx Γ b cX7_init 7 RX7 (none) rmX7_init) (hret : ∀ (pc : Nat) (lv : List (Nat × Value)), decode cX7_init pc = .ok (.return_, 1) → Go Γ b σ 1 3 pc lv [] m9) (v2 : Int32) (v3 : Int32) (m0 : Mem) (hf : X7_init_16 t n9 v2 v3 m0 = some m9) : Go Γ b σ 1 3 16 [(0, .ref (σ.1 t)), (1, .ref (σ.1 (t + 1))), (2, .int v2), (3, .int v3)] [] m0 := by
  refine g_aload_n X 0 dX7_init_16 rfl rfl ?_
  refine g_getr X (x := σ.1 (t + 2)) t 6 1 dX7_init_17 (K_lt0 ht9) (K_kd0 ht9) (by decide) rfl iw_X7 (by decide) rfl q_fl_X7_9 ht9.2.2.2.2.1 ?_
  refine g_iconst X (v := 0) dX7_init_20 (by decide) ?_
  refine g_iload_n X 2 dX7_init_21 rfl rfl ?_
  obtain ⟨h22, hf⟩ := grd hf
  refine g_iast X (t + 2) (n := 3) dX7_init_22 (K_lt2 ht9) (K_kd2 ht9) ht9.2.2.2.2.2.2 h22 ?_
  refine g_aload_n X 0 dX7_init_23 rfl rfl ?_
  refine g_getr X (x := σ.1 (t + 2)) t 6 1 dX7_init_24 (K_lt0 ht9) (K_kd0 ht9) (by decide) rfl iw_X7 (by decide) rfl q_fl_X7_9 ht9.2.2.2.2.1 ?_
  refine g_iconst X (v := 1) dX7_init_27 (by decide) ?_
  refine g_iload_n X 3 dX7_init_28 rfl rfl ?_
  obtain ⟨h29, hf⟩ := grd hf
  refine g_iast X (t + 2) (n := 3) dX7_init_29 (K_lt2 ht9) (K_kd2 ht9) ht9.2.2.2.2.2.2 h29 ?_
  refine g_aload_n X 0 dX7_init_30 rfl rfl ?_
  refine g_getr X (x := σ.1 (t + 2)) t 6 1 dX7_init_31 (K_lt0 ht9) (K_kd0 ht9) (by decide) rfl iw_X7 (by decide) rfl q_fl_X7_9 ht9.2.2.2.2.1 ?_
  refine g_iconst X (v := 2) dX7_init_34 (by decide) ?_
  refine g_aload_n X 1 dX7_init_35 rfl rfl ?_
  refine g_alen X (t + 1) 10 (n := n9) dX7_init_36 (K_lt1 ht9) (K_kd1 ht9) rfl ht9.2.2.2.2.2.1 rfl ?_
  obtain ⟨h37, hf⟩ := grd hf
  refine g_iast X (t + 2) (n := 3) dX7_init_37 (K_lt2 ht9) (K_kd2 ht9) ht9.2.2.2.2.2.2 h37 ?_
  refine g_iconst X (v := 0) dX7_init_38 (by decide) ?_
  refine g_istore X (lv' := [(4, .int (0 : Int32)), (0, .ref (σ.1 t)), (1, .ref (σ.1 (t + 1))), (2, .int v2), (3, .int v3)]) dX7_init_39 (by decide) rfl ?_
  refine g_iconst X (v := 0) dX7_init_41 (by decide) ?_
  refine g_istore X (lv' := [(5, .int (0 : Int32)), (4, .int (0 : Int32)), (0, .ref (σ.1 t)), (1, .ref (σ.1 (t + 1))), (2, .int v2), (3, .int v3)]) dX7_init_42 (by decide) rfl ?_
  refine g_iconst X (v := 0) dX7_init_44 (by decide) ?_
  refine g_istore X (lv' := [(6, .int (0 : Int32)), (5, .int (0 : Int32)), (4, .int (0 : Int32)), (0, .ref (σ.1 t)), (1, .ref (σ.1 (t + 1))), (2, .int v2), (3, .int v3)]) dX7_init_45 (by decide) rfl ?_
  refine g_pick [3, 4, 2, 1, 0] (lv' := [(0, .ref (σ.1 t)), (1, .ref (σ.1 (t + 1))), (4, .int (0 : Int32)), (5, .int (0 : Int32)), (6, .int (0 : Int32))]) rfl ?_
  exact w_X7_init_47 ht9 hnm X hret 10000 (0 : Int32) (0 : Int32) (0 : Int32) (pI (pI (pI m0 (t + 2) (0 : Int32).toNatClampNeg v2) (t + 2) (1 : Int32).toNatClampNeg v3) (t + 2) (2 : Int32).toNatClampNeg (Int32.ofNat n9)) hf
theorem dfl7 : True := trivial
set_option maxRecDepth 100000 in
set_option maxHeartbeats 4000000 in
theorem c_X7_init {l : Launch} {G : GG} {b : Nat} {σ : St} {t n9 : Nat} (hN : σ.2.1 = t + 2) (k0 : kd t = 6) (k1 : kd (t + 1) = 10) (k2 : kd (t + 2) = 10) (hz : σ.2.2.2 (t + 1) = n9) {p1 p2 : Int32} {m0 m9 : Mem} (hf : X7_init t n9 p1 p2 (nM m0 (t + 2)) = some m9) : MtV l yX7_init cX7_init 7 none rmX7_init G b σ m0 [.ref (σ.1 t), .ref (σ.1 (t + 1)), .int p1, .int p2] (fun σ' m' => ∃ q, σ' = pR (pR (nS σ q 3) t 1 (some q)) t 0 (some (σ.1 (t + 1))) ∧ m' = m9) := by
  refine mtV_of (by decide) (Nat.le_of_ble_eq_true rfl) rfl (fun Γ hG X hnm hr => ?_)
  show Go Γ b σ 0 0 0 [(0, .ref (σ.1 t)), (1, .ref (σ.1 (t + 1))), (2, .int p1), (3, .int p2)] [] m0
  have lt0 : t < σ.2.1 := by omega
  have lt1 : t + 1 < σ.2.1 := by omega
  refine g_aload_n X 0 dX7_init_0 rfl rfl ?_
  refine g_oinit X dX7_init_1 q_ml_X7_3 q_im_objectInit q_co_objectInit (by decide) (Nat.le_of_ble_eq_true rfl) ?_
  refine g_aload_n X 0 dX7_init_4 rfl rfl ?_
  refine g_iconst X (v := 3) dX7_init_5 (by decide) ?_
  refine g_newaI X (N := 3) dX7_init_6 q_ac_int (by rw [hN]; exact k2) (by decide) (by decide) (by decide) (by decide) (by decide) (fun q => ?_)
  have lt0' : t < (nS σ q 3).2.1 := Nat.lt_succ_of_lt lt0
  rw [show σ.1 t = (nS σ q 3).1 t from (nS_ad lt0).symm]
  refine g_putRF X (v := some q) (tyf := tyX7) t 6 1 dX7_init_8 lt0' k0 (by decide) rfl iw_X7 (by decide) rfl q_fl_X7_9 tyX7_ok nmX7 rfl rfl rfl hnm rfl ?_
  refine g_aload_n X 0 dX7_init_11 rfl rfl ?_
  refine g_aload_n X 1 dX7_init_12 rfl rfl ?_
  refine g_putRF X (v := some (σ.1 (t + 1))) (σ := pR (nS σ q 3) t 1 (some q)) (tyf := tyX7) t 6 0 dX7_init_13 lt0' k0 (by decide) rfl iw_X7 (by decide) rfl q_fl_X7_13 tyX7_ok nmX7 rfl rfl rfl hnm rfl ?_
  have hK : TiOk (pR (pR (nS σ q 3) t 1 (some q)) t 0 (some (σ.1 (t + 1)))) t n9 := by
    refine ⟨by show t + 2 < σ.2.1 + 1; omega, k0, k1, k2, ?_, ?_, ?_⟩
    · show va_up (va_up (nS σ q 3).2.2.1 t (va_up ((nS σ q 3).2.2.1 t) 1 (some q))) t (va_up (va_up (nS σ q 3).2.2.1 t (va_up ((nS σ q 3).2.2.1 t) 1 (some q)) t) 0 (some (σ.1 (t + 1)))) t 1 = some ((nS σ q 3).1 (t + 2))
      rw [va_up_self, va_up_ne _ _ (by decide), va_up_self, va_up_self, ← hN, nS_q]
    · show (nS σ q 3).2.2.2 (t + 1) = n9
      rw [nS_z lt1]; exact hz
    · show (nS σ q 3).2.2.2 (t + 2) = 3
      rw [← hN, nS_len]
  rw [hN]
  have key : Go Γ b (pR (pR (nS σ q 3) t 1 (some q)) t 0 (some (σ.1 (t + 1)))) 1 3 16 [(0, .ref ((nS σ q 3).1 t)), (1, .ref ((nS σ q 3).1 (t + 1))), (2, .int p1), (3, .int p2)] [] (nM m0 (t + 2)) := w_X7_init_16 (σ := pR (pR (nS σ q 3) t 1 (some q)) t 0 (some (σ.1 (t + 1)))) hK hnm X (fun pc lv d => hr pc lv _ _ d ⟨q, rfl, rfl⟩) p1 p2 _ hf
  rw [nS_ad lt1] at key
  exact key
theorem lf3 {a c r s : Int32} {m m' : Mem} (h : some ((a, c), m) = some ((r, s), m')) : r = a ∧ s = c ∧ m' = m := by cases h; exact ⟨rfl, rfl, rfl⟩
def X3_read (m0 : Mem) : Option ((Int32 × Int32) × Mem) :=
  bv (X3_advance (pI (pI (pI (pI m0 30 2 (-1 : Int32)) 30 6 (0 : Int32)) 30 7 (0 : Int32)) 30 9 (0 : Int32))) fun m21 =>
  bv (X3_expect (10 : Int32) m21) fun m27 =>
  bv (X3_po 100 0 (0 : Int32) m27) fun m32 =>
  bv (X3_expect (59 : Int32) m32) fun m38 =>
  bv (X3_expect (11 : Int32) m38) fun m49 =>
  bv (X3_po 100 0 (0 : Int32) m49) fun m54 =>
  bv (X3_expect (59 : Int32) m54) fun m60 =>
  bv (X3_expect (12 : Int32) m60) fun m71 =>
  bv (X3_po 100 0 (0 : Int32) m71) fun m76 =>
  bv (X3_expect (59 : Int32) m76) fun m82 =>
  if (m82.1 30 3) = 0 then
    some ((m38.1 30 9, m60.1 30 9), pI m82 30 1 (0 : Int32))
  else
    bv (X3_fail m82) fun m93 =>
    some ((m38.1 30 9, m60.1 30 9), pI m93 30 1 (0 : Int32))
abbrev rmX3_read : Room := { frames := 113, cells := 3, slots := 167, locals := 4662 }

set_option maxRecDepth 100000 in
set_option maxHeartbeats 4000000 in
theorem w_X3_read_0 {Γ : Ga} {b : Nat} {σ : St} {r8 r9 : Int32} {m0 m9 : Mem} (hRd : RdOk σ) (X : Cx Γ b cX3_read 3 RX3 (some (.object "PaidInKind$Text")) rmX3_read) (hf : X3_read m0 = some ((r8, r9), m9)) (hret : Go Γ b σ 0 0 101 [(0, .ref (σ.1 30)), (1, .int r8), (2, .int r9)] [] m9) : Go Γ b σ 0 0 0 [(0, .ref (σ.1 30))] [] m0 := by
  refine g_aload_n X 0 dX3_read_0 rfl rfl ?_
  refine g_iconst X (v := -1) dX3_read_1 (by decide) ?_
  refine g_putI X (tyf := tyX3) 30 2 2 dX3_read_2 (rd_lt hRd (by decide)) rfl (by decide) rfl iw_X3 (by decide) rfl q_fl_X3_19 tyX3_ok nmX3 rfl rfl rfl ?_
  refine g_aload_n X 0 dX3_read_5 rfl rfl ?_
  refine g_iconst X (v := 0) dX3_read_6 (by decide) ?_
  refine g_putI X (tyf := tyX3) 30 2 6 dX3_read_7 (rd_lt hRd (by decide)) rfl (by decide) rfl iw_X3 (by decide) rfl q_fl_X3_31 tyX3_ok nmX3 rfl rfl rfl ?_
  refine g_aload_n X 0 dX3_read_10 rfl rfl ?_
  refine g_iconst X (v := 0) dX3_read_11 (by decide) ?_
  refine g_putI X (tyf := tyX3) 30 2 7 dX3_read_12 (rd_lt hRd (by decide)) rfl (by decide) rfl iw_X3 (by decide) rfl q_fl_X3_34 tyX3_ok nmX3 rfl rfl rfl ?_
  refine g_aload_n X 0 dX3_read_15 rfl rfl ?_
  refine g_iconst X (v := 0) dX3_read_16 (by decide) ?_
  refine g_putI X (tyf := tyX3) 30 2 9 dX3_read_17 (rd_lt hRd (by decide)) rfl (by decide) rfl iw_X3 (by decide) rfl q_fl_X3_40 tyX3_ok nmX3 rfl rfl rfl ?_
  refine g_aload_n X 0 dX3_read_20 rfl rfl ?_
  obtain ⟨m21, h21, hf⟩ := bv_i hf
  refine g_eVV X 30 2 [] kV_X3_56 (c_X3_advance hRd h21) dX3_read_21 rfl rfl (rd_lt hRd (by decide)) rfl (by decide) rfl rfl ⟨(Nat.le_of_ble_eq_true rfl), (Nat.le_of_ble_eq_true rfl)⟩ ⟨rfl, rfl⟩ ⟨(Nat.zero_le _), (Nat.zero_le _)⟩ (Nat.le_of_ble_eq_true rfl) ?_
  refine g_aload_n X 0 dX3_read_24 rfl rfl ?_
  refine g_bipush X (v := 10) dX3_read_25 (by decide) ?_
  obtain ⟨m27, h27, hf⟩ := bv_i hf
  refine g_eVV X 30 2 [.int (10 : Int32)] kV_X3_59 (c_X3_expect hRd h27) dX3_read_27 rfl rfl (rd_lt hRd (by decide)) rfl (by decide) rfl rfl ⟨(Nat.le_of_ble_eq_true rfl), (Nat.le_of_ble_eq_true rfl)⟩ ⟨rfl, rfl⟩ ⟨(Nat.zero_le _), (Nat.zero_le _)⟩ (Nat.le_of_ble_eq_true rfl) ?_
  refine g_aload_n X 0 dX3_read_30 rfl rfl ?_
  refine g_iconst X (v := 0) dX3_read_31 (by decide) ?_
  obtain ⟨m32, h32, hf⟩ := bv_i hf
  refine g_eVV X 30 2 [.int (0 : Int32)] kV_X3_63 ((c_po hRd 100).1 _ _ _ _ h32) dX3_read_32 rfl rfl (rd_lt hRd (by decide)) rfl (by decide) rfl rfl ⟨(Nat.le_of_ble_eq_true rfl), (Nat.le_of_ble_eq_true rfl)⟩ ⟨rfl, rfl⟩ ⟨(Nat.zero_le _), (Nat.zero_le _)⟩ (Nat.le_of_ble_eq_true rfl) ?_
  refine g_aload_n X 0 dX3_read_35 rfl rfl ?_
  refine g_bipush X (v := 59) dX3_read_36 (by decide) ?_
  obtain ⟨m38, h38, hf⟩ := bv_i hf
  refine g_eVV X 30 2 [.int (59 : Int32)] kV_X3_59 (c_X3_expect hRd h38) dX3_read_38 rfl rfl (rd_lt hRd (by decide)) rfl (by decide) rfl rfl ⟨(Nat.le_of_ble_eq_true rfl), (Nat.le_of_ble_eq_true rfl)⟩ ⟨rfl, rfl⟩ ⟨(Nat.zero_le _), (Nat.zero_le _)⟩ (Nat.le_of_ble_eq_true rfl) ?_
  refine g_aload_n X 0 dX3_read_41 rfl rfl ?_
  refine g_getI X 30 2 9 dX3_read_42 (rd_lt hRd (by decide)) rfl (by decide) rfl iw_X3 (by decide) rfl q_fl_X3_40 ?_
  refine g_istore_n X (lv' := [(1, .int (m38.1 30 9)), (0, .ref (σ.1 30))]) dX3_read_45 rfl (by decide) rfl ?_
  refine g_aload_n X 1 dX3_read_46 rfl rfl ?_
  refine g_bipush X (v := 11) dX3_read_47 (by decide) ?_
  obtain ⟨m49, h49, hf⟩ := bv_i hf
  refine g_eVV X 30 2 [.int (11 : Int32)] kV_X3_59 (c_X3_expect hRd h49) dX3_read_49 rfl rfl (rd_lt hRd (by decide)) rfl (by decide) rfl rfl ⟨(Nat.le_of_ble_eq_true rfl), (Nat.le_of_ble_eq_true rfl)⟩ ⟨rfl, rfl⟩ ⟨(Nat.zero_le _), (Nat.zero_le _)⟩ (Nat.le_of_ble_eq_true rfl) ?_
  refine g_aload_n X 1 dX3_read_52 rfl rfl ?_
  refine g_iconst X (v := 0) dX3_read_53 (by decide) ?_
  obtain ⟨m54, h54, hf⟩ := bv_i hf
  refine g_eVV X 30 2 [.int (0 : Int32)] kV_X3_63 ((c_po hRd 100).1 _ _ _ _ h54) dX3_read_54 rfl rfl (rd_lt hRd (by decide)) rfl (by decide) rfl rfl ⟨(Nat.le_of_ble_eq_true rfl), (Nat.le_of_ble_eq_true rfl)⟩ ⟨rfl, rfl⟩ ⟨(Nat.zero_le _), (Nat.zero_le _)⟩ (Nat.le_of_ble_eq_true rfl) ?_
  refine g_aload_n X 1 dX3_read_57 rfl rfl ?_
  refine g_bipush X (v := 59) dX3_read_58 (by decide) ?_
  obtain ⟨m60, h60, hf⟩ := bv_i hf
  refine g_eVV X 30 2 [.int (59 : Int32)] kV_X3_59 (c_X3_expect hRd h60) dX3_read_60 rfl rfl (rd_lt hRd (by decide)) rfl (by decide) rfl rfl ⟨(Nat.le_of_ble_eq_true rfl), (Nat.le_of_ble_eq_true rfl)⟩ ⟨rfl, rfl⟩ ⟨(Nat.zero_le _), (Nat.zero_le _)⟩ (Nat.le_of_ble_eq_true rfl) ?_
  refine g_aload_n X 1 dX3_read_63 rfl rfl ?_
  refine g_getI X 30 2 9 dX3_read_64 (rd_lt hRd (by decide)) rfl (by decide) rfl iw_X3 (by decide) rfl q_fl_X3_40 ?_
  refine g_istore_n X (lv' := [(2, .int (m60.1 30 9)), (1, .int (m38.1 30 9)), (0, .ref (σ.1 30))]) dX3_read_67 rfl (by decide) rfl ?_
  refine g_aload_n X 2 dX3_read_68 rfl rfl ?_
  refine g_bipush X (v := 12) dX3_read_69 (by decide) ?_
  obtain ⟨m71, h71, hf⟩ := bv_i hf
  refine g_eVV X 30 2 [.int (12 : Int32)] kV_X3_59 (c_X3_expect hRd h71) dX3_read_71 rfl rfl (rd_lt hRd (by decide)) rfl (by decide) rfl rfl ⟨(Nat.le_of_ble_eq_true rfl), (Nat.le_of_ble_eq_true rfl)⟩ ⟨rfl, rfl⟩ ⟨(Nat.zero_le _), (Nat.zero_le _)⟩ (Nat.le_of_ble_eq_true rfl) ?_
  refine g_aload_n X 2 dX3_read_74 rfl rfl ?_
  refine g_iconst X (v := 0) dX3_read_75 (by decide) ?_
  obtain ⟨m76, h76, hf⟩ := bv_i hf
  refine g_eVV X 30 2 [.int (0 : Int32)] kV_X3_63 ((c_po hRd 100).1 _ _ _ _ h76) dX3_read_76 rfl rfl (rd_lt hRd (by decide)) rfl (by decide) rfl rfl ⟨(Nat.le_of_ble_eq_true rfl), (Nat.le_of_ble_eq_true rfl)⟩ ⟨rfl, rfl⟩ ⟨(Nat.zero_le _), (Nat.zero_le _)⟩ (Nat.le_of_ble_eq_true rfl) ?_
  refine g_aload_n X 2 dX3_read_79 rfl rfl ?_
  refine g_bipush X (v := 59) dX3_read_80 (by decide) ?_
  obtain ⟨m82, h82, hf⟩ := bv_i hf
  refine g_eVV X 30 2 [.int (59 : Int32)] kV_X3_59 (c_X3_expect hRd h82) dX3_read_82 rfl rfl (rd_lt hRd (by decide)) rfl (by decide) rfl rfl ⟨(Nat.le_of_ble_eq_true rfl), (Nat.le_of_ble_eq_true rfl)⟩ ⟨rfl, rfl⟩ ⟨(Nat.zero_le _), (Nat.zero_le _)⟩ (Nat.le_of_ble_eq_true rfl) ?_
  refine g_aload_n X 2 dX3_read_85 rfl rfl ?_
  refine g_getI X 30 2 3 dX3_read_86 (rd_lt hRd (by decide)) rfl (by decide) rfl iw_X3 (by decide) rfl q_fl_X3_22 ?_
  refine g_if_eq X (tgt := 96) dX3_read_89 (by decide) (fun c89 => ?_) (fun c89 => ?_)
  · have hf := it c89 hf
    refine g_aload_n X 2 dX3_read_96 rfl rfl ?_
    refine g_iconst X (v := 0) dX3_read_97 (by decide) ?_
    refine g_putI X (tyf := tyX3) 30 2 1 dX3_read_98 (rd_lt hRd (by decide)) rfl (by decide) rfl iw_X3 (by decide) rfl q_fl_X3_15 tyX3_ok nmX3 rfl rfl rfl ?_
    refine g_pick [2, 1, 0] (lv' := [(0, .ref (σ.1 30)), (1, .int (m38.1 30 9)), (2, .int (m60.1 30 9))]) rfl ?_
    obtain ⟨rfl, rfl, rfl⟩ := lf3 hf
    exact hret
  · have hf := ie c89 hf
    refine g_aload_n X 2 dX3_read_92 rfl rfl ?_
    obtain ⟨m93, h93, hf⟩ := bv_i hf
    refine g_eVV X 30 2 [] kV_X3_66 (c_X3_fail hRd h93) dX3_read_93 rfl rfl (rd_lt hRd (by decide)) rfl (by decide) rfl rfl ⟨(Nat.le_of_ble_eq_true rfl), (Nat.le_of_ble_eq_true rfl)⟩ ⟨rfl, rfl⟩ ⟨(Nat.zero_le _), (Nat.zero_le _)⟩ (Nat.le_of_ble_eq_true rfl) ?_
    refine g_aload_n X 2 dX3_read_96 rfl rfl ?_
    refine g_iconst X (v := 0) dX3_read_97 (by decide) ?_
    refine g_putI X (tyf := tyX3) 30 2 1 dX3_read_98 (rd_lt hRd (by decide)) rfl (by decide) rfl iw_X3 (by decide) rfl q_fl_X3_15 tyX3_ok nmX3 rfl rfl rfl ?_
    refine g_pick [2, 1, 0] (lv' := [(0, .ref (σ.1 30)), (1, .int (m38.1 30 9)), (2, .int (m60.1 30 9))]) rfl ?_
    obtain ⟨rfl, rfl, rfl⟩ := lf3 hf
    exact hret
/-- what Reader.read makes: nothing, or a TEXT with its two rows -/
def rdPost (σ : St) (mA mB : Mem) : Option Nat → St → Mem → Prop := fun r σ' m' => (¬ mA.1 30 2 = -1 ∧ r = none ∧ σ' = σ ∧ m' = mA) ∨ (mA.1 30 2 = -1 ∧ ∃ q1 q2 q3, r = some q1 ∧ σ' = pR (pR (nS (nS (nS σ q1 0) q2 (mA.1 30 9).toNatClampNeg) q3 3) σ.2.1 1 (some q3)) σ.2.1 0 (some q2) ∧ m' = mB)
theorem kS_X3_71 : wcS RX3 71 yJ7_copyOf_59c91 cJ7_copyOf_59c91 3 (some (.array .int)) 2 := ⟨q_ml_X3_71, q_st_yJ7_copyOf_59c91, q_in_J7, q_co_yJ7_copyOf_59c91, by decide +kernel⟩
theorem kI_X3_77 : wcI RX3 77 yX7_init cX7_init 7 3 := ⟨q_ml_X3_77, q_im_yX7_init, q_in_X7, q_co_yX7_init, rfl, by decide +kernel⟩
set_option maxRecDepth 100000 in
set_option maxHeartbeats 4000000 in
theorem c_X3_read {l : Launch} {G : GG} {b : Nat} {σ : St} (hRd : RdOk σ) (k0 : kd σ.2.1 = 6) (k1 : kd (σ.2.1 + 1) = 10) (k2 : kd (σ.2.1 + 2) = 10) {m0 mA mB : Mem} {r8 r9 : Int32} (hf : X3_read m0 = some ((r8, r9), mA)) (hT : mA.1 30 2 = -1 → ¬ mA.1 30 9 < 0 ∧ mA.1 30 9 < 160 ∧ (mA.1 30 9).toNatClampNeg < 160 ∧ X7_init σ.2.1 (mA.1 30 9).toNatClampNeg r8 r9 (nM (pC (nM (nM mA σ.2.1) (σ.2.1 + 1)) 32 (σ.2.1 + 1) 0 0 (mA.1 30 9).toNatClampNeg) (σ.2.1 + 2)) = some mB) : MtQ l yX3_read cX3_read 3 (some (.object "PaidInKind$Text")) rmX3_read G b σ m0 [.ref (σ.1 30)] (rdPost σ mA mB) := by
  refine mtQ_of (by decide) (Nat.le_of_ble_eq_true rfl) (.object "PaidInKind$Text") rfl (Or.inl ⟨_, rfl⟩) (fun Γ hG X hnm hr => ?_)
  subst hG
  show Go Γ b σ 0 0 0 [(0, .ref (σ.1 30))] [] m0
  refine w_X3_read_0 hRd X hf ?_
  have l30 : 30 < σ.2.1 := rd_lt hRd (by decide)
  have l32 : 32 < σ.2.1 := rd_lt hRd (by decide)
  refine g_aload_n X 0 dX3_read_101 rfl rfl ?_
  refine g_getI X 30 2 2 dX3_read_102 l30 rfl (by decide) rfl iw_X3 (by decide) rfl q_fl_X3_19 ?_
  refine g_iconst X (v := -1) dX3_read_105 (by decide) ?_
  refine g_icmp_ne X (tgt := 132) dX3_read_106 (by decide) (fun c => ?_) (fun c => ?_)
  · refine g_null X dX3_read_132 ?_
    refine g_widen (k := 3) (n := 167) (by decide) (by decide) ?_
    exact hr 133 _ none _ _ dX3_read_133 (Or.inl ⟨c, rfl, rfl, rfl⟩)
  · obtain ⟨n0, n1, n2, hX⟩ := hT c
    refine g_new X (tyf := tyX7) 6 dX3_read_109 q_kl_X3_69 q_is_X7 q_in_X7 rfl iw_X7 tyX7_ok dv_X7 k0 (by decide) (by decide) (by decide) (fun q1 => ?_)
    have hR1 := hRd.nS (q := q1) (n := 0)
    have e30 : (nS σ q1 0).1 30 = σ.1 30 := nS_ad l30
    have e0 : (nM mA σ.2.1).1 30 9 = mA.1 30 9 := congrFun (va_up_ne _ _ (Nat.ne_of_lt l30)) 9
    have e9 : (nS σ q1 0).2.1 = σ.2.1 + 1 := rfl
    refine g_dup X dX3_read_112 rfl ?_
    rw [← e30]
    refine g_aload_n X 0 dX3_read_113 rfl rfl ?_
    refine g_getr X (x := (nS σ q1 0).1 32) 30 2 8 dX3_read_114 (rd_lt hR1 (by decide)) rfl (by decide) rfl iw_X3 (by decide) rfl q_fl_X3_37 hR1.2.2.1 ?_
    refine g_aload_n X 0 dX3_read_117 rfl rfl ?_
    refine g_getI X 30 2 9 dX3_read_118 (rd_lt hR1 (by decide)) rfl (by decide) rfl iw_X3 (by decide) rfl q_fl_X3_40 ?_
    rw [e0]
    refine g_cSQ X [.ref ((nS σ q1 0).1 32), .int (mA.1 30 9)] kS_X3_71 (c_copyOf hR1 k1 n0 n1 n2) dX3_read_121 rfl rfl ⟨(Nat.le_of_ble_eq_true rfl), (Nat.le_of_ble_eq_true rfl)⟩ ⟨by decide, by decide⟩ (Nat.le_of_ble_eq_true rfl) (fun r σ' m' hp => ?_)
    obtain ⟨q2, rfl, rfl, rfl⟩ := hp
    refine g_iload_n X 1 dX3_read_124 rfl rfl ?_
    refine g_iload_n X 2 dX3_read_125 rfl rfl ?_
    have hM := c_X7_init (l := gL Γ) (G := gG Γ) (b := b) (σ := nS (nS σ q1 0) q2 (mA.1 30 9).toNatClampNeg) (t := σ.2.1) rfl k0 k1 k2 nS_len hX
    have ea : (nS (nS σ q1 0) q2 (mA.1 30 9).toNatClampNeg).1 σ.2.1 = q1 := by rw [nS_ad (Nat.lt_succ_self _)]; exact nS_q
    have eb : (nS (nS σ q1 0) q2 (mA.1 30 9).toNatClampNeg).1 (σ.2.1 + 1) = q2 := nS_q
    rw [ea, eb] at hM
    refine g_cIV X [.ref q2, .int r8, .int r9] kI_X3_77 hM dX3_read_126 rfl rfl ⟨(Nat.le_of_ble_eq_true rfl), (Nat.le_of_ble_eq_true rfl)⟩ ⟨by decide, by decide⟩ (Nat.le_of_ble_eq_true rfl) (fun σ' m' hp => ?_)
    obtain ⟨q3, rfl, rfl⟩ := hp
    refine g_goto X (tgt := 133) dX3_read_129 (by decide) ?_
    refine g_widen (k := 3) (n := 167) (by decide) (by decide) ?_
    exact hr 133 _ (some q1) _ _ dX3_read_133 (Or.inr ⟨c, q1, q2, q3, rfl, rfl, rfl⟩)
/-! Rules.add -/
def AddOk (σ : St) : Prop := 34 < σ.2.1 ∧ σ.2.2.1 33 1 = some (σ.1 34) ∧ σ.2.2.2 34 = 6
abbrev rmX5_add : Room := { frames := 0, cells := 0, slots := 0, locals := 0 }
set_option maxRecDepth 100000 in
set_option maxHeartbeats 4000000 in
theorem c_X5_add {l : Launch} {G : GG} {b : Nat} {σ : St} (hA : AddOk σ) {t : Nat} (ht : t < σ.2.1) (kt : kd t = 6) {m0 : Mem} (h1 : ¬ 6 ≤ m0.1 33 2) (h2 : inn (m0.1 33 2) 6) : MtI l yX5_add cX5_add 2 (some .int) rmX5_add G b σ m0 [.ref (σ.1 33), .ref (σ.1 t)] (fun r σ' m' => r = m0.1 33 2 ∧ σ' = pR σ 34 (m0.1 33 2).toNatClampNeg (some (σ.1 t)) ∧ m' = pI m0 33 2 (m0.1 33 2 + 1)) := by
  refine mtI_of (by decide) (Nat.le_of_ble_eq_true rfl) .int rfl (fun Γ hG X hnm hr => ?_)
  show Go Γ b σ 0 0 0 [(0, .ref (σ.1 33)), (1, .ref (σ.1 t))] [] m0
  have l34 : 34 < σ.2.1 := hA.1
  have l33 : 33 < σ.2.1 := Nat.lt_of_succ_lt l34
  refine g_aload_n X 0 dX5_add_0 rfl rfl ?_
  refine g_getI X 33 4 2 dX5_add_1 l33 rfl (by decide) rfl iw_X5 (by decide) rfl q_fl_X5_17 ?_
  refine g_bipush X (v := 6) dX5_add_4 (by decide) ?_
  refine g_icmp_lt X (tgt := 12) dX5_add_6 (by decide) (fun c => ?_) (fun c => absurd (Int32.not_lt.mp c) h1)
  refine g_aload_n X 0 dX5_add_12 rfl rfl ?_
  refine g_getr X (x := σ.1 34) 33 4 1 dX5_add_13 l33 rfl (by decide) rfl iw_X5 (by decide) rfl q_fl_X5_11 hA.2.1 ?_
  refine g_aload_n X 0 dX5_add_16 rfl rfl ?_
  refine g_getI X 33 4 2 dX5_add_17 l33 rfl (by decide) rfl iw_X5 (by decide) rfl q_fl_X5_17 ?_
  refine g_aload_n X 1 dX5_add_20 rfl rfl ?_
  refine g_aast13 X 34 t (n := 6) dX5_add_21 l34 rfl hA.2.2 h2 ht kt ?_
  refine g_aload_n X 0 dX5_add_22 rfl rfl ?_
  refine g_dup X dX5_add_23 rfl ?_
  refine g_getI X (σ := pR σ 34 (m0.1 33 2).toNatClampNeg (some (σ.1 t))) 33 4 2 dX5_add_24 l33 rfl (by decide) rfl iw_X5 (by decide) rfl q_fl_X5_17 ?_
  refine g_dup_x1 X dX5_add_27 rfl rfl ?_
  refine g_iconst X (v := 1) dX5_add_28 (by decide) ?_
  refine g_iadd X dX5_add_29 ?_
  refine g_putI X (σ := pR σ 34 (m0.1 33 2).toNatClampNeg (some (σ.1 t))) (tyf := tyX5) 33 4 2 dX5_add_30 l33 rfl (by decide) rfl iw_X5 (by decide) rfl q_fl_X5_17 tyX5_ok nmX5 rfl rfl rfl ?_
  exact hr 33 _ _ _ _ dX5_add_33 ⟨rfl, rfl, rfl⟩ rfl
