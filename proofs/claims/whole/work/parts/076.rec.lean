abbrev rmPO (n : Nat) : Room := { frames := 12 + n, cells := 0, slots := 0, locals := 600 + 40 * n }
theorem kV_X3_63 : wcV RX3 63 RX3 yX3_phrase cX3_phrase 5 none 1 := ⟨q_ml_X3_63, q_im_yX3_phrase, q_se_yX3_phrase, q_in_X3, q_co_yX3_phrase, by decide +kernel⟩

theorem kV_X3_90 : wcV RX3 90 RX3 yX3_joinAt cX3_joinAt 2 (some .int) 1 := ⟨q_ml_X3_90, q_im_yX3_joinAt, q_se_yX3_joinAt, q_in_X3, q_co_yX3_joinAt, by decide +kernel⟩

theorem kV_X3_87 : wcV RX3 87 RX3 yX3_emit cX3_emit 2 (none) 1 := ⟨q_ml_X3_87, q_im_yX3_emit, q_se_yX3_emit, q_in_X3, q_co_yX3_emit, by decide +kernel⟩

theorem kV_X3_83 : wcV RX3 83 RX3 yX3_opens cX3_opens 1 (some .boolean) 0 := ⟨q_ml_X3_83, q_im_yX3_opens, q_se_yX3_opens, q_in_X3, q_co_yX3_opens, by decide +kernel⟩

theorem kV_X3_80 : wcV RX3 80 RX3 yX3_one cX3_one 1 none 0 := ⟨q_ml_X3_80, q_im_yX3_one, q_se_yX3_one, q_in_X3, q_co_yX3_one, by decide +kernel⟩

def X3_phraseB_80 (po : Nat → Int32 → Mem → Option Mem) : Nat → Int32 → Int32 → Int32 → Mem → Option (Mem)
  | 0, _, _, _, _ => none
  | n + 1, v1, v2, v3, m0 =>
    if v2 ≤ v3 then
      some m0
    else
      bi (X3_joinAt v1 m0) fun r87 m87 =>
      if r87 = (-1 : Int32) then
        some m87
      else
        bv (X3_advance m87) fun m100 =>
        bv (po 0 (v1 + (1 : Int32)) m100) fun m107 =>
        bv (X3_emit ((-7 : Int32) - r87) m107) fun m116 =>
        X3_phraseB_80 po n v1 v2 (v3 + (1 : Int32)) m116
def X3_phraseB_77 (po : Nat → Int32 → Mem → Option Mem) (v1 : Int32) (s0 : Int32) (m0 : Mem) : Option (Mem) :=
  X3_phraseB_80 po 10000 v1 s0 (0 : Int32) m0
def X3_phraseB_58 (po : Nat → Int32 → Mem → Option Mem) (v1 : Int32) (m0 : Mem) : Option (Mem) :=
  bv (po 0 (v1 + (1 : Int32)) m0) fun m62 =>
  if v1 = (2 : Int32) then
    X3_phraseB_77 po v1 (1 : Int32) m62
  else
    X3_phraseB_77 po v1 (160 : Int32) m62
def X3_phraseB (po : Nat → Int32 → Mem → Option Mem) (p0 : Int32) (m0 : Mem) : Option (Mem) :=
  if p0 < (5 : Int32) then
    if p0 = (2 : Int32) then
      if (m0.1 30 3) = (15 : Int32) then
        bi (X3_opens m0) fun r25 m25 =>
        if r25 = 0 then
          some m25
        else
          bv (X3_advance m25) fun m33 =>
          bv (po 0 (2 : Int32) m33) fun m38 =>
          bv (X3_emit (-9 : Int32) (pI m38 30 7 ((m38.1 30 7) - (1 : Int32)))) fun m54 =>
          some m54
      else
        X3_phraseB_58 po p0 m0
    else
      X3_phraseB_58 po p0 m0
  else
    bv (po 1 0 m0) fun m6 =>
    some m6
set_option maxRecDepth 100000 in
set_option maxHeartbeats 4000000 in
theorem w_X3_phraseB_80 {Γ : Ga} {b : Nat} {σ : St} {po : Nat → Int32 → Mem → Option Mem} {n9 : Nat} {m9 : Mem} (hRd : RdOk σ) (hp : ∀ (l : Launch) (p0 : Int32) (m0 m9 : Mem), po 0 p0 m0 = some m9 → MtV l yX3_phrase cX3_phrase 5 none (rmPO n9) (gG Γ) b σ m0 [.ref (σ.1 30), .int p0] (pEV σ m9)) (ho : ∀ (l : Launch) (m0 m9 : Mem), po 1 0 m0 = some m9 → MtV l yX3_one cX3_one 1 none (rmPO n9) (gG Γ) b σ m0 [.ref (σ.1 30)] (pEV σ m9)) (X : Cx Γ b cX3_phrase 5 RX3 (none) (rmPO (n9 + 1))) (hret : ∀ (pc : Nat) (lv : List (Nat × Value)), decode cX3_phrase pc = .ok (.return_, 1) → Go Γ b σ 0 0 pc lv [] m9) : ∀ (n : Nat) (v1 : Int32) (v2 : Int32) (v3 : Int32) (m0 : Mem), X3_phraseB_80 po n v1 v2 v3 m0 = some m9 → Go Γ b σ 0 0 80 [(0, .ref (σ.1 30)), (1, .int v1), (2, .int v2), (3, .int v3)] [] m0 := by
  intro n
  induction n with
  | zero =>
    intro v1 v2 v3 m0 hf
    cases hf
  | succ n ih =>
    intro v1 v2 v3 m0 hf
    refine g_iload_n X 3 dX3_phrase_80 rfl rfl ?_
    refine g_iload_n X 2 dX3_phrase_81 rfl rfl ?_
    refine g_icmp_ge X (tgt := 125) dX3_phrase_82 (by decide) (fun c82 => ?_) (fun c82 => ?_)
    · have hf := it c82 hf
      obtain rfl := lf1 hf
      exact hret 125 _ dX3_phrase_125
    · have hf := ie c82 hf
      refine g_aload_n X 0 dX3_phrase_85 rfl rfl ?_
      refine g_iload_n X 1 dX3_phrase_86 rfl rfl ?_
      obtain ⟨r87, m87, h87, hf⟩ := bi_i hf
      refine g_eVI X 30 2 [.int v1] kV_X3_90 (c_X3_joinAt hRd h87) dX3_phrase_87 rfl rfl (rd_lt hRd (by decide)) rfl (by decide) rfl rfl ⟨by show 0 + 1 ≤ 12 + (n9 + 1); omega, by show 8 + (2 + 11) + 0 ≤ 600 + 40 * (n9 + 1); omega⟩ ⟨rfl, rfl⟩ ⟨(Nat.zero_le _), (Nat.zero_le _)⟩ (Nat.le_of_ble_eq_true rfl) ?_
      refine g_istore X (lv' := [(4, .int r87), (0, .ref (σ.1 30)), (1, .int v1), (2, .int v2), (3, .int v3)]) dX3_phrase_90 (by decide) rfl ?_
      refine g_iload X 0 dX3_phrase_92 rfl ?_
      refine g_iconst X (v := -1) dX3_phrase_94 (by decide) ?_
      refine g_icmp_ne X (tgt := 99) dX3_phrase_95 (by decide) (fun c95 => ?_) (fun c95 => ?_)
      · have hf := ie c95 hf
        refine g_aload_n X 1 dX3_phrase_99 rfl rfl ?_
        obtain ⟨m100, h100, hf⟩ := bv_i hf
        refine g_eVV X 30 2 [] kV_X3_56 (c_X3_advance hRd h100) dX3_phrase_100 rfl rfl (rd_lt hRd (by decide)) rfl (by decide) rfl rfl ⟨by show 5 + 1 ≤ 12 + (n9 + 1); omega, by show 8 + (2 + 11) + 148 ≤ 600 + 40 * (n9 + 1); omega⟩ ⟨rfl, rfl⟩ ⟨(Nat.zero_le _), (Nat.zero_le _)⟩ (Nat.le_of_ble_eq_true rfl) ?_
        refine g_aload_n X 1 dX3_phrase_103 rfl rfl ?_
        refine g_iload_n X 2 dX3_phrase_104 rfl rfl ?_
        refine g_iconst X (v := 1) dX3_phrase_105 (by decide) ?_
        refine g_iadd X dX3_phrase_106 ?_
        obtain ⟨m107, h107, hf⟩ := bv_i hf
        refine g_eVV X 30 2 [.int (v1 + (1 : Int32))] kV_X3_63 (hp _ _ _ _ h107) dX3_phrase_107 rfl rfl (rd_lt hRd (by decide)) rfl (by decide) rfl rfl ⟨by show 12 + n9 + 1 ≤ 12 + (n9 + 1); omega, by show 8 + (5 + 11) + (600 + 40 * n9) ≤ 600 + 40 * (n9 + 1); omega⟩ ⟨rfl, rfl⟩ ⟨(Nat.zero_le _), (Nat.zero_le _)⟩ (Nat.le_of_ble_eq_true rfl) ?_
        refine g_aload_n X 1 dX3_phrase_110 rfl rfl ?_
        refine g_bipush X (v := -7) dX3_phrase_111 (by decide) ?_
        refine g_iload X 0 dX3_phrase_113 rfl ?_
        refine g_isub X dX3_phrase_115 ?_
        obtain ⟨m116, h116, hf⟩ := bv_i hf
        refine g_eVV X 30 2 [.int ((-7 : Int32) - r87)] kV_X3_87 (c_X3_emit hRd h116) dX3_phrase_116 rfl rfl (rd_lt hRd (by decide)) rfl (by decide) rfl rfl ⟨by show 0 + 1 ≤ 12 + (n9 + 1); omega, by show 8 + (2 + 11) + 0 ≤ 600 + 40 * (n9 + 1); omega⟩ ⟨rfl, rfl⟩ ⟨(Nat.zero_le _), (Nat.zero_le _)⟩ (Nat.le_of_ble_eq_true rfl) ?_
        refine g_iinc X 4 (v := v3 + (1 : Int32)) (lv' := [(3, .int (v3 + (1 : Int32))), (4, .int r87), (0, .ref (σ.1 30)), (1, .int v1), (2, .int v2)]) dX3_phrase_119 rfl rfl (by decide) rfl ?_
        refine g_goto X (tgt := 80) dX3_phrase_122 (by decide) ?_
        refine g_pick [2, 3, 4, 0] (lv' := [(0, .ref (σ.1 30)), (1, .int v1), (2, .int v2), (3, .int (v3 + (1 : Int32)))]) rfl ?_
        exact ih v1 v2 (v3 + (1 : Int32)) m116 hf
      · have hf := it c95 hf
        obtain rfl := lf1 hf
        exact hret 98 _ dX3_phrase_98
set_option maxRecDepth 100000 in
set_option maxHeartbeats 4000000 in
theorem w_X3_phraseB_77 {Γ : Ga} {b : Nat} {σ : St} {po : Nat → Int32 → Mem → Option Mem} {n9 : Nat} {m9 : Mem} (hRd : RdOk σ) (hp : ∀ (l : Launch) (p0 : Int32) (m0 m9 : Mem), po 0 p0 m0 = some m9 → MtV l yX3_phrase cX3_phrase 5 none (rmPO n9) (gG Γ) b σ m0 [.ref (σ.1 30), .int p0] (pEV σ m9)) (ho : ∀ (l : Launch) (m0 m9 : Mem), po 1 0 m0 = some m9 → MtV l yX3_one cX3_one 1 none (rmPO n9) (gG Γ) b σ m0 [.ref (σ.1 30)] (pEV σ m9)) (X : Cx Γ b cX3_phrase 5 RX3 (none) (rmPO (n9 + 1))) (hret : ∀ (pc : Nat) (lv : List (Nat × Value)), decode cX3_phrase pc = .ok (.return_, 1) → Go Γ b σ 0 0 pc lv [] m9) (v1 : Int32) (s0 : Int32) (m0 : Mem) (hf : X3_phraseB_77 po v1 s0 m0 = some m9) : Go Γ b σ 0 0 77 [(0, .ref (σ.1 30)), (1, .int v1)] [.int s0] m0 := by
  refine g_istore_n X (lv' := [(2, .int s0), (0, .ref (σ.1 30)), (1, .int v1)]) dX3_phrase_77 rfl (by decide) rfl ?_
  refine g_iconst X (v := 0) dX3_phrase_78 (by decide) ?_
  refine g_istore_n X (lv' := [(3, .int (0 : Int32)), (2, .int s0), (0, .ref (σ.1 30)), (1, .int v1)]) dX3_phrase_79 rfl (by decide) rfl ?_
  refine g_pick [2, 3, 1, 0] (lv' := [(0, .ref (σ.1 30)), (1, .int v1), (2, .int s0), (3, .int (0 : Int32))]) rfl ?_
  exact w_X3_phraseB_80 hRd hp ho X hret 10000 v1 s0 (0 : Int32) m0 hf
set_option maxRecDepth 100000 in
set_option maxHeartbeats 4000000 in
theorem w_X3_phraseB_58 {Γ : Ga} {b : Nat} {σ : St} {po : Nat → Int32 → Mem → Option Mem} {n9 : Nat} {m9 : Mem} (hRd : RdOk σ) (hp : ∀ (l : Launch) (p0 : Int32) (m0 m9 : Mem), po 0 p0 m0 = some m9 → MtV l yX3_phrase cX3_phrase 5 none (rmPO n9) (gG Γ) b σ m0 [.ref (σ.1 30), .int p0] (pEV σ m9)) (ho : ∀ (l : Launch) (m0 m9 : Mem), po 1 0 m0 = some m9 → MtV l yX3_one cX3_one 1 none (rmPO n9) (gG Γ) b σ m0 [.ref (σ.1 30)] (pEV σ m9)) (X : Cx Γ b cX3_phrase 5 RX3 (none) (rmPO (n9 + 1))) (hret : ∀ (pc : Nat) (lv : List (Nat × Value)), decode cX3_phrase pc = .ok (.return_, 1) → Go Γ b σ 0 0 pc lv [] m9) (v1 : Int32) (m0 : Mem) (hf : X3_phraseB_58 po v1 m0 = some m9) : Go Γ b σ 0 0 58 [(0, .ref (σ.1 30)), (1, .int v1)] [] m0 := by
  refine g_aload_n X 0 dX3_phrase_58 rfl rfl ?_
  refine g_iload_n X 1 dX3_phrase_59 rfl rfl ?_
  refine g_iconst X (v := 1) dX3_phrase_60 (by decide) ?_
  refine g_iadd X dX3_phrase_61 ?_
  obtain ⟨m62, h62, hf⟩ := bv_i hf
  refine g_eVV X 30 2 [.int (v1 + (1 : Int32))] kV_X3_63 (hp _ _ _ _ h62) dX3_phrase_62 rfl rfl (rd_lt hRd (by decide)) rfl (by decide) rfl rfl ⟨by show 12 + n9 + 1 ≤ 12 + (n9 + 1); omega, by show 8 + (5 + 11) + (600 + 40 * n9) ≤ 600 + 40 * (n9 + 1); omega⟩ ⟨rfl, rfl⟩ ⟨(Nat.zero_le _), (Nat.zero_le _)⟩ (Nat.le_of_ble_eq_true rfl) ?_
  refine g_iload_n X 1 dX3_phrase_65 rfl rfl ?_
  refine g_iconst X (v := 2) dX3_phrase_66 (by decide) ?_
  refine g_icmp_ne X (tgt := 74) dX3_phrase_67 (by decide) (fun c67 => ?_) (fun c67 => ?_)
  · have hf := ie c67 hf
    refine g_sipush X (v := 160) dX3_phrase_74 (by decide) ?_
    exact w_X3_phraseB_77 hRd hp ho X hret v1 (160 : Int32) m62 hf
  · have hf := it c67 hf
    refine g_iconst X (v := 1) dX3_phrase_70 (by decide) ?_
    refine g_goto X (tgt := 77) dX3_phrase_71 (by decide) ?_
    exact w_X3_phraseB_77 hRd hp ho X hret v1 (1 : Int32) m62 hf
set_option maxRecDepth 100000 in
set_option maxHeartbeats 4000000 in
theorem c_X3_phraseB {l : Launch} {G : GG} {b : Nat} {σ : St} {po : Nat → Int32 → Mem → Option Mem} {n9 : Nat} {p0 : Int32} {m0 : Mem} {m9 : Mem} (hRd : RdOk σ) (hp : ∀ (l : Launch) (p0 : Int32) (m0 m9 : Mem), po 0 p0 m0 = some m9 → MtV l yX3_phrase cX3_phrase 5 none (rmPO n9) G b σ m0 [.ref (σ.1 30), .int p0] (pEV σ m9)) (ho : ∀ (l : Launch) (m0 m9 : Mem), po 1 0 m0 = some m9 → MtV l yX3_one cX3_one 1 none (rmPO n9) G b σ m0 [.ref (σ.1 30)] (pEV σ m9)) (hf : X3_phraseB po p0 m0 = some m9) : MtV l yX3_phrase cX3_phrase 5 (none) (rmPO (n9 + 1)) G b σ m0 [.ref (σ.1 30), .int p0] (pEV σ m9) := by
  refine mtV_of (by decide) (Nat.le_of_ble_eq_true rfl) rfl (fun Γ hG X hnm hr => ?_)
  subst hG
  have hret : ∀ (pc : Nat) (lv : List (Nat × Value)), decode cX3_phrase pc = .ok (.return_, 1) → Go Γ b σ 0 0 pc lv [] m9 := fun pc lv d => hr pc lv _ _ d ⟨rfl, rfl⟩
  show Go Γ b σ 0 0 0 [(0, .ref (σ.1 30)), (1, .int p0)] [] m0
  refine g_iload_n X 1 dX3_phrase_0 rfl rfl ?_
  refine g_iconst X (v := 5) dX3_phrase_1 (by decide) ?_
  refine g_icmp_lt X (tgt := 10) dX3_phrase_2 (by decide) (fun c2 => ?_) (fun c2 => ?_)
  · have hf := it c2 hf
    refine g_iload_n X 1 dX3_phrase_10 rfl rfl ?_
    refine g_iconst X (v := 2) dX3_phrase_11 (by decide) ?_
    refine g_icmp_ne X (tgt := 58) dX3_phrase_12 (by decide) (fun c12 => ?_) (fun c12 => ?_)
    · have hf := ie c12 hf
      exact w_X3_phraseB_58 hRd hp ho X hret p0 m0 hf
    · have hf := it c12 hf
      refine g_aload_n X 0 dX3_phrase_15 rfl rfl ?_
      refine g_getI X 30 2 3 dX3_phrase_16 (rd_lt hRd (by decide)) rfl (by decide) rfl iw_X3 (by decide) rfl q_fl_X3_22 ?_
      refine g_bipush X (v := 15) dX3_phrase_19 (by decide) ?_
      refine g_icmp_ne X (tgt := 58) dX3_phrase_21 (by decide) (fun c21 => ?_) (fun c21 => ?_)
      · have hf := ie c21 hf
        exact w_X3_phraseB_58 hRd hp ho X hret p0 m0 hf
      · have hf := it c21 hf
        refine g_aload_n X 0 dX3_phrase_24 rfl rfl ?_
        obtain ⟨r25, m25, h25, hf⟩ := bi_i hf
        refine g_eVI X 30 2 [] kV_X3_83 (c_X3_opens hRd h25) dX3_phrase_25 rfl rfl (rd_lt hRd (by decide)) rfl (by decide) rfl rfl ⟨by show 1 + 1 ≤ 12 + (n9 + 1); omega, by show 8 + (1 + 11) + 20 ≤ 600 + 40 * (n9 + 1); omega⟩ ⟨rfl, rfl⟩ ⟨(Nat.zero_le _), (Nat.zero_le _)⟩ (Nat.le_of_ble_eq_true rfl) ?_
        refine g_if_ne X (tgt := 32) dX3_phrase_28 (by decide) (fun c28 => ?_) (fun c28 => ?_)
        · have hf := ie c28 hf
          refine g_aload_n X 0 dX3_phrase_32 rfl rfl ?_
          obtain ⟨m33, h33, hf⟩ := bv_i hf
          refine g_eVV X 30 2 [] kV_X3_56 (c_X3_advance hRd h33) dX3_phrase_33 rfl rfl (rd_lt hRd (by decide)) rfl (by decide) rfl rfl ⟨by show 5 + 1 ≤ 12 + (n9 + 1); omega, by show 8 + (2 + 11) + 148 ≤ 600 + 40 * (n9 + 1); omega⟩ ⟨rfl, rfl⟩ ⟨(Nat.zero_le _), (Nat.zero_le _)⟩ (Nat.le_of_ble_eq_true rfl) ?_
          refine g_aload_n X 0 dX3_phrase_36 rfl rfl ?_
          refine g_iconst X (v := 2) dX3_phrase_37 (by decide) ?_
          obtain ⟨m38, h38, hf⟩ := bv_i hf
          refine g_eVV X 30 2 [.int (2 : Int32)] kV_X3_63 (hp _ _ _ _ h38) dX3_phrase_38 rfl rfl (rd_lt hRd (by decide)) rfl (by decide) rfl rfl ⟨by show 12 + n9 + 1 ≤ 12 + (n9 + 1); omega, by show 8 + (5 + 11) + (600 + 40 * n9) ≤ 600 + 40 * (n9 + 1); omega⟩ ⟨rfl, rfl⟩ ⟨(Nat.zero_le _), (Nat.zero_le _)⟩ (Nat.le_of_ble_eq_true rfl) ?_
          refine g_aload_n X 0 dX3_phrase_41 rfl rfl ?_
          refine g_dup X dX3_phrase_42 rfl ?_
          refine g_getI X 30 2 7 dX3_phrase_43 (rd_lt hRd (by decide)) rfl (by decide) rfl iw_X3 (by decide) rfl q_fl_X3_34 ?_
          refine g_iconst X (v := 1) dX3_phrase_46 (by decide) ?_
          refine g_isub X dX3_phrase_47 ?_
          refine g_putI X (tyf := tyX3) 30 2 7 dX3_phrase_48 (rd_lt hRd (by decide)) rfl (by decide) rfl iw_X3 (by decide) rfl q_fl_X3_34 tyX3_ok nmX3 rfl rfl rfl ?_
          refine g_aload_n X 0 dX3_phrase_51 rfl rfl ?_
          refine g_bipush X (v := -9) dX3_phrase_52 (by decide) ?_
          obtain ⟨m54, h54, hf⟩ := bv_i hf
          refine g_eVV X 30 2 [.int (-9 : Int32)] kV_X3_87 (c_X3_emit hRd h54) dX3_phrase_54 rfl rfl (rd_lt hRd (by decide)) rfl (by decide) rfl rfl ⟨by show 0 + 1 ≤ 12 + (n9 + 1); omega, by show 8 + (2 + 11) + 0 ≤ 600 + 40 * (n9 + 1); omega⟩ ⟨rfl, rfl⟩ ⟨(Nat.zero_le _), (Nat.zero_le _)⟩ (Nat.le_of_ble_eq_true rfl) ?_
          obtain rfl := lf1 hf
          exact hret 57 _ dX3_phrase_57
        · have hf := it c28 hf
          obtain rfl := lf1 hf
          exact hret 31 _ dX3_phrase_31
  · have hf := ie c2 hf
    refine g_aload_n X 0 dX3_phrase_5 rfl rfl ?_
    obtain ⟨m6, h6, hf⟩ := bv_i hf
    refine g_eVV X 30 2 [] kV_X3_80 (ho _ _ _ h6) dX3_phrase_6 rfl rfl (rd_lt hRd (by decide)) rfl (by decide) rfl rfl ⟨by show 12 + n9 + 1 ≤ 12 + (n9 + 1); omega, by show 8 + (1 + 11) + (600 + 40 * n9) ≤ 600 + 40 * (n9 + 1); omega⟩ ⟨rfl, rfl⟩ ⟨(Nat.zero_le _), (Nat.zero_le _)⟩ (Nat.le_of_ble_eq_true rfl) ?_
    obtain rfl := lf1 hf
    exact hret 9 _ dX3_phrase_9
theorem kV_X3_59 : wcV RX3 59 RX3 yX3_expect cX3_expect 2 (none) 1 := ⟨q_ml_X3_59, q_im_yX3_expect, q_se_yX3_expect, q_in_X3, q_co_yX3_expect, by decide +kernel⟩

def X3_oneB (po : Nat → Int32 → Mem → Option Mem) (m0 : Mem) : Option (Mem) :=
  if (m0.1 30 3) = (2 : Int32) then
    bv (X3_emit (m0.1 30 5) m0) fun m53 =>
    bv (X3_advance m53) fun m57 =>
    some m57
  else
    if (m0.1 30 3) = (3 : Int32) then
      bv (X3_emit ((-1 : Int32) - (m0.1 30 5)) m0) fun m68 =>
      bv (X3_advance m68) fun m72 =>
      some m72
    else
      if (m0.1 30 3) = (40 : Int32) then
        bi (X3_opens m0) fun r110 m110 =>
        if r110 = 0 then
          some m110
        else
          bv (X3_advance m110) fun m118 =>
          bv (po 0 (0 : Int32) m118) fun m123 =>
          bv (X3_expect (41 : Int32) m123) fun m129 =>
          some (pI m129 30 7 ((m129.1 30 7) - (1 : Int32)))
      else
        if (m0.1 30 3) = (45 : Int32) then
          bi (X3_opens m0) fun r77 m77 =>
          if r77 = 0 then
            some m77
          else
            bv (X3_advance m77) fun m85 =>
            bv (po 1 0 m85) fun m89 =>
            bv (X3_emit (-15 : Int32) (pI m89 30 7 ((m89.1 30 7) - (1 : Int32)))) fun m105 =>
            some m105
        else
          bv (X3_fail m0) fun m144 =>
          some m144

set_option maxRecDepth 100000 in
set_option maxHeartbeats 4000000 in
theorem c_X3_oneB {l : Launch} {G : GG} {b : Nat} {σ : St} {po : Nat → Int32 → Mem → Option Mem} {n9 : Nat} {m0 : Mem} {m9 : Mem} (hRd : RdOk σ) (hp : ∀ (l : Launch) (p0 : Int32) (m0 m9 : Mem), po 0 p0 m0 = some m9 → MtV l yX3_phrase cX3_phrase 5 none (rmPO n9) G b σ m0 [.ref (σ.1 30), .int p0] (pEV σ m9)) (ho : ∀ (l : Launch) (m0 m9 : Mem), po 1 0 m0 = some m9 → MtV l yX3_one cX3_one 1 none (rmPO n9) G b σ m0 [.ref (σ.1 30)] (pEV σ m9)) (hf : X3_oneB po m0 = some m9) : MtV l yX3_one cX3_one 1 (none) (rmPO (n9 + 1)) G b σ m0 [.ref (σ.1 30)] (pEV σ m9) := by
  refine mtV_of (by decide) (Nat.le_of_ble_eq_true rfl) rfl (fun Γ hG X hnm hr => ?_)
  subst hG
  have hret : ∀ (pc : Nat) (lv : List (Nat × Value)), decode cX3_one pc = .ok (.return_, 1) → Go Γ b σ 0 0 pc lv [] m9 := fun pc lv d => hr pc lv _ _ d ⟨rfl, rfl⟩
  show Go Γ b σ 0 0 0 [(0, .ref (σ.1 30))] [] m0
  refine g_aload_n X 0 dX3_one_0 rfl rfl ?_
  refine g_getI X 30 2 3 dX3_one_1 (rd_lt hRd (by decide)) rfl (by decide) rfl iw_X3 (by decide) rfl q_fl_X3_22 ?_
  by_cases c4_0 : (m0.1 30 3) = (2 : Int32)
  · have hf := it c4_0 hf
    refine g_lookup X (tgt := 48) (off := 44) dX3_one_4 (by decide) (by rw [c4_0]; rfl) (by decide) ?_
    refine g_aload_n X 0 dX3_one_48 rfl rfl ?_
    refine g_aload_n X 0 dX3_one_49 rfl rfl ?_
    refine g_getI X 30 2 5 dX3_one_50 (rd_lt hRd (by decide)) rfl (by decide) rfl iw_X3 (by decide) rfl q_fl_X3_28 ?_
    obtain ⟨m53, h53, hf⟩ := bv_i hf
    refine g_eVV X 30 2 [.int (m0.1 30 5)] kV_X3_87 (c_X3_emit hRd h53) dX3_one_53 rfl rfl (rd_lt hRd (by decide)) rfl (by decide) rfl rfl ⟨by show 0 + 1 ≤ 12 + (n9 + 1); omega, by show 8 + (2 + 11) + 0 ≤ 600 + 40 * (n9 + 1); omega⟩ ⟨rfl, rfl⟩ ⟨(Nat.zero_le _), (Nat.zero_le _)⟩ (Nat.le_of_ble_eq_true rfl) ?_
    refine g_aload_n X 0 dX3_one_56 rfl rfl ?_
    obtain ⟨m57, h57, hf⟩ := bv_i hf
    refine g_eVV X 30 2 [] kV_X3_56 (c_X3_advance hRd h57) dX3_one_57 rfl rfl (rd_lt hRd (by decide)) rfl (by decide) rfl rfl ⟨by show 5 + 1 ≤ 12 + (n9 + 1); omega, by show 8 + (2 + 11) + 148 ≤ 600 + 40 * (n9 + 1); omega⟩ ⟨rfl, rfl⟩ ⟨(Nat.zero_le _), (Nat.zero_le _)⟩ (Nat.le_of_ble_eq_true rfl) ?_
    obtain rfl := lf1 hf
    exact hret 60 _ dX3_one_60
  · have hf := ie c4_0 hf
    by_cases c4_1 : (m0.1 30 3) = (3 : Int32)
    · have hf := it c4_1 hf
      refine g_lookup X (tgt := 61) (off := 57) dX3_one_4 (by decide) (by rw [c4_1]; rfl) (by decide) ?_
      refine g_aload_n X 0 dX3_one_61 rfl rfl ?_
      refine g_iconst X (v := -1) dX3_one_62 (by decide) ?_
      refine g_aload_n X 0 dX3_one_63 rfl rfl ?_
      refine g_getI X 30 2 5 dX3_one_64 (rd_lt hRd (by decide)) rfl (by decide) rfl iw_X3 (by decide) rfl q_fl_X3_28 ?_
      refine g_isub X dX3_one_67 ?_
      obtain ⟨m68, h68, hf⟩ := bv_i hf
      refine g_eVV X 30 2 [.int ((-1 : Int32) - (m0.1 30 5))] kV_X3_87 (c_X3_emit hRd h68) dX3_one_68 rfl rfl (rd_lt hRd (by decide)) rfl (by decide) rfl rfl ⟨by show 0 + 1 ≤ 12 + (n9 + 1); omega, by show 8 + (2 + 11) + 0 ≤ 600 + 40 * (n9 + 1); omega⟩ ⟨rfl, rfl⟩ ⟨(Nat.zero_le _), (Nat.zero_le _)⟩ (Nat.le_of_ble_eq_true rfl) ?_
      refine g_aload_n X 0 dX3_one_71 rfl rfl ?_
      obtain ⟨m72, h72, hf⟩ := bv_i hf
      refine g_eVV X 30 2 [] kV_X3_56 (c_X3_advance hRd h72) dX3_one_72 rfl rfl (rd_lt hRd (by decide)) rfl (by decide) rfl rfl ⟨by show 5 + 1 ≤ 12 + (n9 + 1); omega, by show 8 + (2 + 11) + 148 ≤ 600 + 40 * (n9 + 1); omega⟩ ⟨rfl, rfl⟩ ⟨(Nat.zero_le _), (Nat.zero_le _)⟩ (Nat.le_of_ble_eq_true rfl) ?_
      obtain rfl := lf1 hf
      exact hret 75 _ dX3_one_75
    · have hf := ie c4_1 hf
      by_cases c4_2 : (m0.1 30 3) = (40 : Int32)
      · have hf := it c4_2 hf
        refine g_lookup X (tgt := 109) (off := 105) dX3_one_4 (by decide) (by rw [c4_2]; rfl) (by decide) ?_
        refine g_aload_n X 0 dX3_one_109 rfl rfl ?_
        obtain ⟨r110, m110, h110, hf⟩ := bi_i hf
        refine g_eVI X 30 2 [] kV_X3_83 (c_X3_opens hRd h110) dX3_one_110 rfl rfl (rd_lt hRd (by decide)) rfl (by decide) rfl rfl ⟨by show 1 + 1 ≤ 12 + (n9 + 1); omega, by show 8 + (1 + 11) + 20 ≤ 600 + 40 * (n9 + 1); omega⟩ ⟨rfl, rfl⟩ ⟨(Nat.zero_le _), (Nat.zero_le _)⟩ (Nat.le_of_ble_eq_true rfl) ?_
        refine g_if_ne X (tgt := 117) dX3_one_113 (by decide) (fun c113 => ?_) (fun c113 => ?_)
        · have hf := ie c113 hf
          refine g_aload_n X 0 dX3_one_117 rfl rfl ?_
          obtain ⟨m118, h118, hf⟩ := bv_i hf
          refine g_eVV X 30 2 [] kV_X3_56 (c_X3_advance hRd h118) dX3_one_118 rfl rfl (rd_lt hRd (by decide)) rfl (by decide) rfl rfl ⟨by show 5 + 1 ≤ 12 + (n9 + 1); omega, by show 8 + (2 + 11) + 148 ≤ 600 + 40 * (n9 + 1); omega⟩ ⟨rfl, rfl⟩ ⟨(Nat.zero_le _), (Nat.zero_le _)⟩ (Nat.le_of_ble_eq_true rfl) ?_
          refine g_aload_n X 0 dX3_one_121 rfl rfl ?_
          refine g_iconst X (v := 0) dX3_one_122 (by decide) ?_
          obtain ⟨m123, h123, hf⟩ := bv_i hf
          refine g_eVV X 30 2 [.int (0 : Int32)] kV_X3_63 (hp _ _ _ _ h123) dX3_one_123 rfl rfl (rd_lt hRd (by decide)) rfl (by decide) rfl rfl ⟨by show 12 + n9 + 1 ≤ 12 + (n9 + 1); omega, by show 8 + (5 + 11) + (600 + 40 * n9) ≤ 600 + 40 * (n9 + 1); omega⟩ ⟨rfl, rfl⟩ ⟨(Nat.zero_le _), (Nat.zero_le _)⟩ (Nat.le_of_ble_eq_true rfl) ?_
          refine g_aload_n X 0 dX3_one_126 rfl rfl ?_
          refine g_bipush X (v := 41) dX3_one_127 (by decide) ?_
          obtain ⟨m129, h129, hf⟩ := bv_i hf
          refine g_eVV X 30 2 [.int (41 : Int32)] kV_X3_59 (c_X3_expect hRd h129) dX3_one_129 rfl rfl (rd_lt hRd (by decide)) rfl (by decide) rfl rfl ⟨by show 6 + 1 ≤ 12 + (n9 + 1); omega, by show 8 + (2 + 11) + 169 ≤ 600 + 40 * (n9 + 1); omega⟩ ⟨rfl, rfl⟩ ⟨(Nat.zero_le _), (Nat.zero_le _)⟩ (Nat.le_of_ble_eq_true rfl) ?_
          refine g_aload_n X 0 dX3_one_132 rfl rfl ?_
          refine g_dup X dX3_one_133 rfl ?_
          refine g_getI X 30 2 7 dX3_one_134 (rd_lt hRd (by decide)) rfl (by decide) rfl iw_X3 (by decide) rfl q_fl_X3_34 ?_
          refine g_iconst X (v := 1) dX3_one_137 (by decide) ?_
          refine g_isub X dX3_one_138 ?_
          refine g_putI X (tyf := tyX3) 30 2 7 dX3_one_139 (rd_lt hRd (by decide)) rfl (by decide) rfl iw_X3 (by decide) rfl q_fl_X3_34 tyX3_ok nmX3 rfl rfl rfl ?_
          obtain rfl := lf1 hf
          exact hret 142 _ dX3_one_142
        · have hf := it c113 hf
          obtain rfl := lf1 hf
          exact hret 116 _ dX3_one_116
      · have hf := ie c4_2 hf
        by_cases c4_3 : (m0.1 30 3) = (45 : Int32)
        · have hf := it c4_3 hf
          refine g_lookup X (tgt := 76) (off := 72) dX3_one_4 (by decide) (by rw [c4_3]; rfl) (by decide) ?_
          refine g_aload_n X 0 dX3_one_76 rfl rfl ?_
          obtain ⟨r77, m77, h77, hf⟩ := bi_i hf
          refine g_eVI X 30 2 [] kV_X3_83 (c_X3_opens hRd h77) dX3_one_77 rfl rfl (rd_lt hRd (by decide)) rfl (by decide) rfl rfl ⟨by show 1 + 1 ≤ 12 + (n9 + 1); omega, by show 8 + (1 + 11) + 20 ≤ 600 + 40 * (n9 + 1); omega⟩ ⟨rfl, rfl⟩ ⟨(Nat.zero_le _), (Nat.zero_le _)⟩ (Nat.le_of_ble_eq_true rfl) ?_
          refine g_if_ne X (tgt := 84) dX3_one_80 (by decide) (fun c80 => ?_) (fun c80 => ?_)
          · have hf := ie c80 hf
            refine g_aload_n X 0 dX3_one_84 rfl rfl ?_
            obtain ⟨m85, h85, hf⟩ := bv_i hf
            refine g_eVV X 30 2 [] kV_X3_56 (c_X3_advance hRd h85) dX3_one_85 rfl rfl (rd_lt hRd (by decide)) rfl (by decide) rfl rfl ⟨by show 5 + 1 ≤ 12 + (n9 + 1); omega, by show 8 + (2 + 11) + 148 ≤ 600 + 40 * (n9 + 1); omega⟩ ⟨rfl, rfl⟩ ⟨(Nat.zero_le _), (Nat.zero_le _)⟩ (Nat.le_of_ble_eq_true rfl) ?_
            refine g_aload_n X 0 dX3_one_88 rfl rfl ?_
            obtain ⟨m89, h89, hf⟩ := bv_i hf
            refine g_eVV X 30 2 [] kV_X3_80 (ho _ _ _ h89) dX3_one_89 rfl rfl (rd_lt hRd (by decide)) rfl (by decide) rfl rfl ⟨by show 12 + n9 + 1 ≤ 12 + (n9 + 1); omega, by show 8 + (1 + 11) + (600 + 40 * n9) ≤ 600 + 40 * (n9 + 1); omega⟩ ⟨rfl, rfl⟩ ⟨(Nat.zero_le _), (Nat.zero_le _)⟩ (Nat.le_of_ble_eq_true rfl) ?_
            refine g_aload_n X 0 dX3_one_92 rfl rfl ?_
            refine g_dup X dX3_one_93 rfl ?_
            refine g_getI X 30 2 7 dX3_one_94 (rd_lt hRd (by decide)) rfl (by decide) rfl iw_X3 (by decide) rfl q_fl_X3_34 ?_
            refine g_iconst X (v := 1) dX3_one_97 (by decide) ?_
            refine g_isub X dX3_one_98 ?_
            refine g_putI X (tyf := tyX3) 30 2 7 dX3_one_99 (rd_lt hRd (by decide)) rfl (by decide) rfl iw_X3 (by decide) rfl q_fl_X3_34 tyX3_ok nmX3 rfl rfl rfl ?_
            refine g_aload_n X 0 dX3_one_102 rfl rfl ?_
            refine g_bipush X (v := -15) dX3_one_103 (by decide) ?_
            obtain ⟨m105, h105, hf⟩ := bv_i hf
            refine g_eVV X 30 2 [.int (-15 : Int32)] kV_X3_87 (c_X3_emit hRd h105) dX3_one_105 rfl rfl (rd_lt hRd (by decide)) rfl (by decide) rfl rfl ⟨by show 0 + 1 ≤ 12 + (n9 + 1); omega, by show 8 + (2 + 11) + 0 ≤ 600 + 40 * (n9 + 1); omega⟩ ⟨rfl, rfl⟩ ⟨(Nat.zero_le _), (Nat.zero_le _)⟩ (Nat.le_of_ble_eq_true rfl) ?_
            obtain rfl := lf1 hf
            exact hret 108 _ dX3_one_108
          · have hf := it c80 hf
            obtain rfl := lf1 hf
            exact hret 83 _ dX3_one_83
        · have hf := ie c4_3 hf
          refine g_lookup X (tgt := 143) (off := 139) dX3_one_4 (by decide) ((lv_osw c4_0 rfl).trans ((lv_osw c4_1 rfl).trans ((lv_osw c4_2 rfl).trans ((lv_osw c4_3 rfl).trans rfl)))) (by decide) ?_
          refine g_aload_n X 0 dX3_one_143 rfl rfl ?_
          obtain ⟨m144, h144, hf⟩ := bv_i hf
          refine g_eVV X 30 2 [] kV_X3_66 (c_X3_fail hRd h144) dX3_one_144 rfl rfl (rd_lt hRd (by decide)) rfl (by decide) rfl rfl ⟨by show 0 + 1 ≤ 12 + (n9 + 1); omega, by show 8 + (1 + 11) + 0 ≤ 600 + 40 * (n9 + 1); omega⟩ ⟨rfl, rfl⟩ ⟨(Nat.zero_le _), (Nat.zero_le _)⟩ (Nat.le_of_ble_eq_true rfl) ?_
          obtain rfl := lf1 hf
          exact hret 147 _ dX3_one_147
def X3_po : Nat → Nat → Int32 → Mem → Option Mem
  | 0, _, _, _ => none
  | n + 1, sel, p0, m0 => if sel = 0 then X3_phraseB (X3_po n) p0 m0 else X3_oneB (X3_po n) m0
theorem c_po {G : GG} {b : Nat} {σ : St} (hRd : RdOk σ) : ∀ n : Nat, (∀ (l : Launch) (p0 : Int32) (m0 m9 : Mem), X3_po n 0 p0 m0 = some m9 → MtV l yX3_phrase cX3_phrase 5 none (rmPO n) G b σ m0 [.ref (σ.1 30), .int p0] (pEV σ m9)) ∧ (∀ (l : Launch) (m0 m9 : Mem), X3_po n 1 0 m0 = some m9 → MtV l yX3_one cX3_one 1 none (rmPO n) G b σ m0 [.ref (σ.1 30)] (pEV σ m9)) := by
  intro n
  induction n with
  | zero => exact ⟨fun _ _ _ _ h => (by cases h), fun _ _ _ h => (by cases h)⟩
  | succ n ih => exact ⟨fun l p0 m0 m9 h => c_X3_phraseB hRd ih.1 ih.2 (it (c := (0 : Nat) = 0) rfl h), fun l m0 m9 h => c_X3_oneB hRd ih.1 ih.2 (ie (c := (1 : Nat) = 0) (by decide) h)⟩
