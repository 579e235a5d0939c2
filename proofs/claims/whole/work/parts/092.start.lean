/-- what is owed of the memory behind the constructors -/
def ob_init (Inv : Nat → Nat → (Nat → Nat) → Mem → Prop) : Prop := ∀ m0 : Mem, ∃ (mW mA mB m9 : Mem) (r8 r9 : Int32) (z : Nat → Nat), X3_write (Mnew (nM m0 0)) = some mW ∧ X3_read mW = some ((r8, r9), mA) ∧ mA.1 30 2 = -1 ∧ (mA.1 30 9).toNatClampNeg = z 0 ∧ (¬ mA.1 30 9 < 0 ∧ mA.1 30 9 < 160 ∧ (mA.1 30 9).toNatClampNeg < 160 ∧ X7_init 52 (mA.1 30 9).toNatClampNeg r8 r9 (nM (pC (nM (nM mA 52) 53) 32 53 0 0 (mA.1 30 9).toNatClampNeg) 54) = some mB) ∧ ¬ 6 ≤ mB.1 33 2 ∧ inn (mB.1 33 2) 6 ∧ (mB.1 33 2).toNatClampNeg = 0 ∧ X10_init_129 (Mref (nM (Mold mB) 63)) = some m9 ∧ Inv 0 0 z m9
theorem agr_nS {σ : St} {z : Nat → Nat} {q n : Nat} (hN : σ.2.1 = 63) (h : Agr 63 σ z) : Agr 63 (nS σ q n) z := by
  intro a ha
  have la : a < σ.2.1 := by omega
  obtain ⟨g1, g2, g3⟩ := h a ha
  have adj : ∀ k, (rt 0 a k).map σ.1 = (rt 0 a k).map (nS σ q n).1 := by
    intro k
    cases hk : rt 0 a k with
    | none => rfl
    | some i => rw [Option.map_some, Option.map_some, nS_ad (by have := rt_lt63 ha hk; omega)]
  refine ⟨fun h1 k hk ht => ?_, fun h1 => ?_, fun h1 => ?_⟩
  · rw [nS_r la, ← adj k]; exact g1 h1 k hk ht
  · rw [nS_z la]; exact g2 h1
  · rw [nS_r la]; funext k; rw [← adj k]; exact congrFun (g3 h1) k
def sTm (i : Nat) : Term := if i = 0 then .string RX9 67 else if i = 1 then .string RX3 104 else .string RX3 99
theorem p_el : ∀ i, i < 3 → ∀ j, j < xL.getD i 0 → Cond.eq (.elem (.field (sTm i) "java/lang/String" "value" "[B") (.int (Int32.ofNat j))) (.int ((xB.getD i []).getD j 0)) ∈ flatC (Jvm.Cond.and given_1 narrow_1) := by decide +kernel
theorem p_ex : ∀ i, i < 3 → Cond.exactly (sTm i) "java/lang/String" ∈ flatC (Jvm.Cond.and given_1 narrow_1) := by decide +kernel
theorem p_co : ∀ i, i < 3 → Cond.eq (.field (sTm i) "java/lang/String" "coder" "B") (.int 0) ∈ flatC (Jvm.Cond.and given_1 narrow_1) := by decide +kernel
theorem p_ar : ∀ i, i < 3 → Cond.arrayOf (.field (sTm i) "java/lang/String" "value" "[B") .byte ∈ flatC (Jvm.Cond.and given_1 narrow_1) := by decide +kernel
theorem p_le : ∀ i, i < 3 → Cond.eq (.length (.field (sTm i) "java/lang/String" "value" "[B")) (.int (Int32.ofNat (xL.getD i 0))) ∈ flatC (Jvm.Cond.and given_1 narrow_1) := by decide +kernel
theorem p_ne : ∀ i, i < 3 → ∀ j, j < 3 → i ≠ j → Cond.not (Cond.eq (sTm i) (sTm j)) ∈ flatC (Jvm.Cond.and given_1 narrow_1) ∨ Cond.not (Cond.eq (sTm j) (sTm i)) ∈ flatC (Jvm.Cond.and given_1 narrow_1) := by decide +kernel
theorem p_lit : ∀ i, i < 3 → xL.getD i 0 < 2 ^ 31 := by decide +kernel
theorem p_ms : ∀ j, j < 5 → Cond.eq (.elem (.static "PaidInKind" "MOST_SET" "[I") (.int (Int32.ofNat j))) (.int (([999, 9, 7, 255, 255] : List Int32).getD j 0)) ∈ flatC (Jvm.Cond.and given_1 narrow_1) := by decide +kernel
theorem p_ab : ∀ j, j < 6 → Cond.eq (.elem (.static "PaidInKind$Kinds" "ABOVE" "[I") (.int (Int32.ofNat j))) (.int (([-1, 0, 0, 1, 2, 0] : List Int32).getD j 0)) ∈ flatC (Jvm.Cond.and given_1 narrow_1) := by decide +kernel
theorem t_cls {w : Cond} (i : Nat) (h : lw_tbl[i]? = some w) : w ∈ lw_tbl := List.mem_of_getElem? h
set_option maxHeartbeats 4000000 in
theorem ext_start {s : State} {bs : Nat} (hts : ∀ w ∈ lw_tbl, w.before #[Value.ref bs] s = true) (hgv : (Jvm.Cond.and given_1 narrow_1).before #[Value.ref bs] s = true) : ∃ x : Nat → Nat, ∀ (D : va_G) (cy : Nat → ClassId), Ext (D, cy, x) s.heap.size s s.heap := by
  have hs := flat_of_before _ hgv
  have hA : ∀ a : Nat, a < s.heap.size → ¬ wB s.heap.size a := fun a h q => Nat.lt_irrefl _ (Nat.lt_of_lt_of_le h q)
  obtain ⟨t0, e0, T0⟩ := va_Tof (ty := .int) (N := 5) (f := fun j => .int (([999, 9, 7, 255, 255] : List Int32).getD j 0)) (by decide) (hs (Cond.arrayOf (.static "PaidInKind" "MOST_SET" "[I") .int) (by decide +kernel)) (va_eqt (hs (Cond.eq (.length (.static "PaidInKind" "MOST_SET" "[I")) (.int 5)) (by decide +kernel))) (fun j hj => va_eqt (hs _ (p_ms j hj))) hA
  obtain ⟨t1, e1, T1⟩ := va_Tof (ty := .int) (N := 6) (f := fun j => .int (([-1, 0, 0, 1, 2, 0] : List Int32).getD j 0)) (by decide) (hs (Cond.arrayOf (.static "PaidInKind$Kinds" "ABOVE" "[I") .int) (by decide +kernel)) (va_eqt (hs (Cond.eq (.length (.static "PaidInKind$Kinds" "ABOVE" "[I")) (.int 6)) (by decide +kernel))) (fun j hj => va_eqt (hs _ (p_ab j hj))) hA
  obtain ⟨aK, aV, hS, hev⟩ := vk_Sof (N := 3) (tm := sTm) (len := xL) (byt := xB) p_lit (fun i hi => hs _ (p_ex i hi)) (fun i hi => hs _ (p_co i hi)) (fun i hi => hs _ (p_ar i hi)) (fun i hi => hs _ (p_le i hi)) (fun i hi j hj => hs _ (p_el i hi j hj)) (fun i j hi hj hne => (p_ne i hi j hj hne).imp (hs _) (hs _)) hA
  refine ⟨fun i => if i = 0 then t0 else if i = 1 then t1 else if i < 5 then aK (i - 2) else aV (i - 5), fun D cy => ?_⟩
  refine ⟨va_Zof (hts _ (t_cls 558 (by decide +kernel))) (hts _ (ww_tbl _ q_in_X9)) e0 hA, T0, va_Zof (hts _ (t_cls 893 (by decide +kernel))) (hts _ (ww_tbl _ q_in_X1)) e1 hA, T1, va_Zof (hts _ (t_cls 316 (by decide +kernel))) (hts _ (ww_tbl _ q_in_J0)) (va_eqt (hs (Cond.eq (.static "java/lang/String" "COMPACT_STRINGS" "Z") (.int 1)) (by decide +kernel))) hA, va_Zqof (hts _ (t_cls 332 (by decide +kernel))) (hts _ (ww_tbl _ q_in_J3)) (hs (Cond.isRef (.static "jdk/internal/util/Preconditions" "SIOOBE_FORMATTER" "Ljava/util/function/BiFunction;")) (by decide +kernel)) hA, ?_, ?_, ?_, ?_, ?_⟩
  · refine ⟨fun i hi => ?_, fun i j hi hj e => ?_⟩
    · have h := hS.1 i hi
      rcases (show i = 0 ∨ i = 1 ∨ i = 2 by omega) with rfl | rfl | rfl <;> exact h
    · refine hS.2 i j hi hj ?_
      rcases (show i = 0 ∨ i = 1 ∨ i = 2 by omega) with rfl | rfl | rfl <;> rcases (show j = 0 ∨ j = 1 ∨ j = 2 by omega) with rfl | rfl | rfl <;> exact e
  · exact vk_R.of (hts (Cond.stringRef RX9 67 "takes not here ; worth far ; times 1 + far ;") (t_cls 302 (by decide +kernel))) (hev 0 (by decide))
  · exact vk_R.of (hts (Cond.stringRef RX3 104 "takes worth times or and not place number known far here round ") (t_cls 371 (by decide +kernel))) (hev 1 (by decide))
  · exact vk_R.of (hts (Cond.stringRef RX3 99 "();+-*<=") (t_cls 376 (by decide +kernel))) (hev 2 (by decide))
  · exact ⟨va_Nw.of rfl (hts (Cond.methodLinkNest RX9 9 yX4_init RX9) (t_cls 123 (by decide +kernel))), va_Nw.of rfl (hts (Cond.methodLinkNest RX9 18 yX0_init RX9) (t_cls 147 (by decide +kernel))), va_Nw.of rfl (hts (Cond.methodLinkNest RX9 38 yX3_init RX9) (t_cls 204 (by decide +kernel))), va_Nw.of rfl (hts (Cond.methodLinkNest RX5 38 yX8_init RX9) (t_cls 252 (by decide +kernel))), va_Nw.of rfl (hts (Cond.methodLinkNest RX9 81 yX6_init RX9) (t_cls 505 (by decide +kernel))), va_AO.of (hts (Cond.arrayOver (.object RX6)) (t_cls 301 (by decide +kernel))), va_AO.of (hts (Cond.arrayOver (.object RX7)) (t_cls 248 (by decide +kernel))), va_AO.of (hts (Cond.arrayOver (.object RX8)) (t_cls 250 (by decide +kernel)))⟩
theorem arr_cls {s : State} {args : Array Value} {ty : FieldType} (h : (Cond.arrayClass ty).before args s = true) (hp : ∀ C, ty ≠ .object C) : ∃ cA : ClassId, ArrOfT s cA ty ∧ va_RA s cA ty := by
  obtain ⟨c, k, comp, h1, h2, h3⟩ := Cond.arrayClass_spec h
  refine ⟨c, fun n z => ⟨fun k h => (by cases h), k, h2, comp, h3⟩, ?_⟩
  cases ty with
  | object C => exact absurd rfl (hp C)
  | _ => exact h1
theorem arr_obj {s : State} {args : Array Value} {C : String} (h : (Cond.arrayOver (.object C)).before args s = true) : ∃ cA : ClassId, ArrOfT s cA (.object C) ∧ va_RA s cA (.object C) := by
  obtain ⟨comp, c, k, h1, -, h2, h3, h4⟩ := Cond.arrayOver_spec h
  exact ⟨c, fun n z => ⟨fun k h => (by cases h), k, h2, comp, h3⟩, k, comp, h2, h3, h1, h4⟩
set_option maxHeartbeats 4000000 in
theorem known_start {s : State} {bs : Nat} (hts : ∀ w ∈ lw_tbl, w.before #[Value.ref bs] s = true) : ∃ (D : va_G) (cy : Nat → ClassId), ∀ x : Nat → Nat, va_K D vwCl (wT (D, cy, x)) s := by
  have hw : ∀ w ∈ WW, w.before #[Value.ref bs] s = true := fun w h => hts w (ww_tbl w h)
  obtain ⟨c0, i0, h0⟩ := u_known (C := RX0) (T := TX0) (N := 9) (n := 9) hw iw_X0 (hw _ q_is_X0)
  obtain ⟨c1, i1, h1⟩ := u_known (C := RX2) (T := TX2) (N := 1) (n := 1) hw iw_X2 (hw _ q_is_X2)
  obtain ⟨c2, i2, h2⟩ := u_known (C := RX3) (T := TX3) (N := 10) (n := 10) hw iw_X3 (hw _ q_is_X3)
  obtain ⟨c3, i3, h3⟩ := u_known (C := RX4) (T := TX4) (N := 5) (n := 5) hw iw_X4 (hw _ q_is_X4)
  obtain ⟨c4, i4, h4⟩ := u_known (C := RX5) (T := TX5) (N := 6) (n := 6) hw iw_X5 (hw _ q_is_X5)
  obtain ⟨c5, i5, h5⟩ := u_known (C := RX6) (T := TX6) (N := 3) (n := 3) hw iw_X6 (hw _ q_is_X6)
  obtain ⟨c6, i6, h6⟩ := u_known (C := RX7) (T := TX7) (N := 4) (n := 4) hw iw_X7 (hw _ q_is_X7)
  obtain ⟨c7, i7, h7⟩ := u_known (C := RX8) (T := TX8) (N := 3) (n := 3) hw iw_X8 (hw _ q_is_X8)
  obtain ⟨c8, i8, h8⟩ := u_known (C := RX9) (T := TX9) (N := 10) (n := 10) hw iw_X9 (hw _ q_is_X9)
  obtain ⟨c9, i9, h9⟩ := u_known (C := RX10) (T := TX10) (N := 40) (n := 40) hw iw_X10 (hw _ q_is_X10)
  obtain ⟨aI, hI⟩ := arr_cls (ty := .int) (hw _ q_ac_int) (fun C h => by cases h)
  obtain ⟨aZ, hZ⟩ := arr_cls (ty := .boolean) (hw _ q_ac_boolean) (fun C h => by cases h)
  obtain ⟨aS, hS⟩ := arr_obj (C := RX6) (hts _ (t_cls 301 (by decide +kernel)))
  obtain ⟨aT, hT⟩ := arr_obj (C := RX7) (hts _ (t_cls 248 (by decide +kernel)))
  obtain ⟨aV, hV⟩ := arr_obj (C := RX8) (hts _ (t_cls 250 (by decide +kernel)))
  refine ⟨(fun k => if k = 0 then c0 else if k = 1 then c1 else if k = 2 then c2 else if k = 3 then c3 else if k = 4 then c4 else if k = 5 then c5 else if k = 6 then c6 else if k = 7 then c7 else if k = 8 then c8 else c9, fun k => if k = 0 then i0 else if k = 1 then i1 else if k = 2 then i2 else if k = 3 then i3 else if k = 4 then i4 else if k = 5 then i5 else if k = 6 then i6 else if k = 7 then i7 else if k = 8 then i8 else i9), fun k => if k = 10 then aI else if k = 11 then aZ else if k = 12 then aS else if k = 13 then aT else aV, fun x => ⟨fun k q hq => ?_, fun k q hq => ?_⟩⟩
  · match k, hq with
    | 0, hq => cases hq; exact h0
    | 1, hq => cases hq; exact h1
    | 2, hq => cases hq; exact h2
    | 3, hq => cases hq; exact h3
    | 4, hq => cases hq; exact h4
    | 5, hq => cases hq; exact h5
    | 6, hq => cases hq; exact h6
    | 7, hq => cases hq; exact h7
    | 8, hq => cases hq; exact h8
    | 9, hq => cases hq; exact h9
    | k + 10, hq => simp [vwCl] at hq
  · match k, hq with
    | 0, hq => cases hq; exact hI
    | 1, hq => cases hq; exact hZ
    | 2, hq => cases hq; exact hS
    | 3, hq => cases hq; exact hT
    | 4, hq => cases hq; exact hV
    | k + 5, hq => simp [wT] at hq
theorem kI_L_9 : wcI RL 9 yX9_init cX9_init 2 0 := ⟨q_ml_L_9, q_im_yX9_init, q_in_X9, q_co_yX9_init, rfl, by decide +kernel⟩
theorem kI_L_12 : wcI RL 12 yX10_init cX10_init 1 0 := ⟨q_ml_L_12, q_im_yX10_init, q_in_X10, q_co_yX10_init, rfl, by decide +kernel⟩
set_option maxRecDepth 100000 in
set_option maxHeartbeats 4000000 in
theorem whole_start_of {Inv : Nat → Nat → (Nat → Nat) → Mem → Prop} (O : Obl Inv) (OI : ob_init Inv) {p : Program} {e : Env} {s : State} {m : MethodId} {below : List Frame} {meth : Method} {c : Code} (l : Launch) {b L : Nat} {xs : Nat → Int32} (hL : L ≤ 3072) (C0 : lw_At p s m meth c b L xs) : W p l e room_1 s m #[Value.ref b] below meth c s.heap [] 0 0 (lw_Z below #[Value.ref b] s) (entryFrame m ([Value.ref b] : List Value).toArray 4) := by
  obtain ⟨hx, hb, hr, hml, hown, hts, hX, hbl, hlocks, hgv⟩ := C0
  obtain ⟨D, cy, hK⟩ := known_start hts
  obtain ⟨x, hE⟩ := ext_start hts hgv
  have hK := hK x
  have hE := hE D cy
  have hl := lv_entry ([.ref b]) (n := 4) (Nat.le_of_ble_eq_true rfl)
  rw [lg_entry_eq]
  generalize (lg_sl ([.ref b]) ++ List.replicate (4 - (lg_sl ([.ref b])).length) Slot.unset).toArray = ls at hl ⊢
  have hl : lv_has ls 4 [(0, .ref b)] := hl
  have X : Cx (p, l, e, room_1, s, m, #[Value.ref b], below, meth, c, (D, cy, x), 4, lw_Z below #[Value.ref b] s) s.heap.size cL_law 4 RL ret room_1 := ⟨hx, hb, hml, rfl, hown, fun w h => hts w (ww_tbl w h), hK, hr, hE, Nat.le_refl _, rfl⟩
  have hend : ∀ (σ : St) (μ : Mem) (lv : List (Nat × Value)) (cells slots : Nat), cells ≤ 600000 → slots ≤ 7302250 → Go (p, l, e, room_1, s, m, #[Value.ref b], below, meth, c, (D, cy, x), 4, lw_Z below #[Value.ref b] s) s.heap.size σ cells slots 1112 lv [.int 1] μ := by
    intro σ μ lv cells slots h1 h2 H locs ls g1 g2 g3 g4
    refine va_forget (fun q hq => g3.2.2 q hq) ?_
    refine W.widen (k := 600000) (n := 7302250) h1 h2 ?_
    exact lw_ret hx hb hr hlocks dL_law_1112
  have hScr : ScrOk (p, l, e, room_1, s, m, #[Value.ref b], below, meth, c, (D, cy, x), 4, lw_Z below #[Value.ref b] s) s.heap.size b L xs := ⟨hX, hbl, fun h => Nat.lt_irrefl _ (Nat.lt_of_lt_of_le hbl h)⟩
  generalize hΓ : (p, l, e, room_1, s, m, #[Value.ref b], below, meth, c, ((D, cy, x) : GG), 4, lw_Z below #[Value.ref b] s) = Γ at X hend hScr
  have key : Go Γ s.heap.size ((fun _ => 0, 0, fun _ _ => none, fun _ => 0) : St) 0 0 0 [(0, .ref b)] [] (((fun _ _ => 0), (fun _ _ => 0)) : Mem) := by
    obtain ⟨mW, mA, mB, m9, r8, r9, z, i1, i2, i3, i4, i5, i6, i7, i8, i9, i10⟩ := OI (((fun _ _ => 0), (fun _ _ => 0)) : Mem)
    refine g_new X (tyf := tyX9) 8 dL_law_0 q_kl_L_7 q_is_X9 q_in_X9 rfl iw_X9 tyX9_ok dv_X9 rfl (by decide) (by decide) (by decide) (fun q0 => ?_)
    refine g_dup X dL_law_3 rfl ?_
    refine g_cIV X [] kI_L_9 (c_X9_init (r8 := r8) (r9 := r9) (z := z) i4.symm i1 i2 i3 rfl i5 i6 i7 i8) dL_law_4 rfl rfl ⟨(Nat.le_of_ble_eq_true rfl), (Nat.le_of_ble_eq_true rfl)⟩ ⟨by decide, by decide⟩ (Nat.le_of_ble_eq_true rfl) (fun σ1 m' hp => ?_)
    obtain ⟨hN, h0, hAg, rfl⟩ := hp
    have h0 : σ1.1 0 = q0 := h0
    refine g_astore_n X (lv' := [(1, .ref q0), (0, .ref b)]) dL_law_7 rfl (by decide) rfl ?_
    refine g_new X (tyf := tyX10) 9 dL_law_8 q_kl_L_10 q_is_X10 q_in_X10 rfl iw_X10 tyX10_ok dv_X10 (by rw [hN]; rfl) (by decide) (by decide) (by decide) (fun q1 => ?_)
    rw [hN]
    refine g_dup X dL_law_11 rfl ?_
    have e63 : (nS σ1 q1 0).1 63 = q1 := by rw [← hN]; exact nS_q
    have hM := c_X10_init (l := gL Γ) (G := gG Γ) (b := s.heap.size) (σ := nS σ1 q1 0) (z := z) (by show σ1.2.1 + 1 = 64; rw [hN]) (agr_nS hN hAg) i9
    rw [e63] at hM
    refine g_cIV X [] kI_L_12 hM dL_law_12 rfl rfl ⟨(Nat.le_of_ble_eq_true rfl), (Nat.le_of_ble_eq_true rfl)⟩ ⟨by decide, by decide⟩ (Nat.le_of_ble_eq_true rfl) (fun σ2 m' hp => ?_)
    obtain ⟨ad, hadj, rfl, rfl⟩ := hp
    have a0 : ad 0 = q0 := by rw [hadj 0 (by decide), nS_ad (by rw [hN]; decide), h0]
    have a63 : ad 63 = q1 := by rw [hadj 63 (by decide), e63]
    refine g_astore_n X (lv' := [(2, .ref q1), (1, .ref q0), (0, .ref b)]) dL_law_15 rfl (by decide) rfl ?_
    refine g_iconst X (v := 0) dL_law_16 (by decide) ?_
    refine g_istore_n X (lv' := [(3, .int 0), (2, .ref q1), (1, .ref q0), (0, .ref b)]) dL_law_17 rfl (by decide) rfl ?_
    refine g_pick [3, 2, 1, 0] (lv' := [(0, .ref b), (1, .ref q0), (2, .ref q1), (3, .int 0)]) rfl ?_
    rw [← a0, ← a63]
    refine g_widen (k := 100 + 3 * 0) (n := 4000 + 167 * 0) (by decide) (by decide) ?_
    exact law_loop X hL hScr hend O (L + 1) 0 0 ad 0 z _ i10 rfl (Nat.zero_le _) (by omega)
  subst hΓ
  refine key s.heap [] ls ?_ ?_ va_S.rf hl
  · intro k q h; simp [wW] at h
  · exact ⟨fun i j p q h => by simp [wW] at h, fun k q h => by simp [wW] at h⟩
