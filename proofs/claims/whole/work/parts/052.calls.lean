/-! contracts over the memory, calls, returns -/
def pre (G : GG) (b : Nat) (σ : St) (μ : Mem) (U : State) : Prop := va_P G.1 vwCl (wW G σ μ) U.heap ∧ va_D (wB b) (wW G σ μ) ∧ va_K G.1 vwCl (wT G) U ∧ Ext G b U U.heap ∧ b ≤ U.heap.size
def pos (G : GG) (b : Nat) (u : St × Mem) (t : State) : Prop := va_P G.1 vwCl (wW G u.1 u.2) t.heap ∧ va_D (wB b) (wW G u.1 u.2)
def MtI (l : Launch) (y : MethodName) (cc : ByteArray) (maxL : Nat) (ret : Option FieldType) (rm : Room) (G : GG) (b : Nat) (σ : St) (μ : Mem) (vs : List Value) (post : Int32 → St → Mem → Prop) : Prop := Met l y (.code y cc maxL ret :: WW) rm (va_Pc vs (pre G b σ μ)) (va_Qi (fun (r : Int32) (u : St × Mem) => post r u.1 u.2) (pos G b) (wB b)) rm.cells rm.slots (wB b)
def MtL (l : Launch) (y : MethodName) (cc : ByteArray) (maxL : Nat) (ret : Option FieldType) (rm : Room) (G : GG) (b : Nat) (σ : St) (μ : Mem) (vs : List Value) (post : Int64 → St → Mem → Prop) : Prop := Met l y (.code y cc maxL ret :: WW) rm (va_Pc vs (pre G b σ μ)) (va_Ql (fun (r : Int64) (u : St × Mem) => post r u.1 u.2) (pos G b) (wB b)) rm.cells rm.slots (wB b)
def MtQ (l : Launch) (y : MethodName) (cc : ByteArray) (maxL : Nat) (ret : Option FieldType) (rm : Room) (G : GG) (b : Nat) (σ : St) (μ : Mem) (vs : List Value) (post : Option Nat → St → Mem → Prop) : Prop := Met l y (.code y cc maxL ret :: WW) rm (va_Pc vs (pre G b σ μ)) (va_Qq (fun (r : Option Nat) (u : St × Mem) => post r u.1 u.2) (pos G b) (wB b)) rm.cells rm.slots (wB b)
def MtV (l : Launch) (y : MethodName) (cc : ByteArray) (maxL : Nat) (ret : Option FieldType) (rm : Room) (G : GG) (b : Nat) (σ : St) (μ : Mem) (vs : List Value) (post : St → Mem → Prop) : Prop := Met l y (.code y cc maxL ret :: WW) rm (va_Pc vs (pre G b σ μ)) (va_Qv (fun (u : St × Mem) => post u.1 u.2) (pos G b) (wB b)) rm.cells rm.slots (wB b)
def wcV (own : String) (index : Nat) (C : String) (y : MethodName) (bytes : ByteArray) (maxL : Nat) (rt : Option FieldType) (n : Nat) : Prop := Cond.methodLink own index y ∈ WW ∧ Cond.instanceMethod y ∈ WW ∧ Cond.selects C y y ∈ WW ∧ Cond.initialized C ∈ WW ∧ Cond.code y bytes maxL rt ∈ WW ∧ (y.cls = C ∧ y.cls ≠ "java/lang/invoke/MethodHandle" ∧ y.cls ≠ "java/lang/invoke/VarHandle" ∧ (parseMethodDescriptor y.desc).map (fun d => d.parameters.length) = some n)
def wcS (own : String) (index : Nat) (y : MethodName) (bytes : ByteArray) (maxL : Nat) (rt : Option FieldType) (n : Nat) : Prop := Cond.methodLink own index y ∈ WW ∧ Cond.static y ∈ WW ∧ Cond.initialized y.cls ∈ WW ∧ Cond.code y bytes maxL rt ∈ WW ∧ (y.cls ≠ "java/lang/invoke/MethodHandle" ∧ y.cls ≠ "java/lang/invoke/VarHandle" ∧ (parseMethodDescriptor y.desc).map (fun d => d.parameters.length) = some n)
def wcI (own : String) (index : Nat) (y : MethodName) (bytes : ByteArray) (maxL : Nat) (n : Nat) : Prop := Cond.methodLink own index y ∈ WW ∧ Cond.instanceMethod y ∈ WW ∧ Cond.initialized y.cls ∈ WW ∧ Cond.code y bytes maxL none ∈ WW ∧ y.name = "<init>" ∧ (y.cls ≠ "java/lang/invoke/MethodHandle" ∧ y.cls ≠ "java/lang/invoke/VarHandle" ∧ (parseMethodDescriptor y.desc).map (fun d => d.parameters.length) = some n)
theorem good_c {y : MethodName} {bytes : ByteArray} {maxL : Nat} {rt : Option FieldType} (h : Cond.code y bytes maxL rt ∈ WW) : GoodIn WW (.code y bytes maxL rt :: WW) := fun w hw => (List.mem_cons.mp hw).elim (fun e => by subst e; exact ⟨h, good_of_word (ww_good _ h)⟩) (fun hm => ⟨hm, good_of_word (ww_good _ hm)⟩)
theorem pre_blind {G : GG} {b : Nat} {σ : St} {μ : Mem} {vs : List Value} : FrameBlind (va_Pc vs (pre G b σ μ)) := by
  intro a U g mk q
  obtain ⟨q0, qP, qD, qK, qE, qb⟩ := q
  exact ⟨q0, qP, qD, va_K.moved (u := U) (U := U.calling g mk a) (Vm.Alike.refl U.vm) qK, Ext.cl qE rfl rfl, qb⟩
theorem pre_at {G : GG} {b : Nat} {σ : St} {μ : Mem} {vs : List Value} {s U : State} {H : Heap} {locs : List Loc} (h1 : va_P G.1 vwCl (wW G σ μ) H) (h2 : va_D (wB b) (wW G σ μ)) (h3 : va_S (wB b) s.heap H locs) (hK : va_K G.1 vwCl (wT G) s) (hE : Ext G b s s.heap) (hbs : b ≤ s.heap.size) (hU : U.heap = H) (hw : s.WarmedH U.vm) : va_Pc vs (pre G b σ μ) vs.toArray U :=
  ⟨rfl, by rw [hU]; exact h1, h2, va_K.moved hw.alike hK, Ext.mv hE h3 hw hU, by rw [hU]; exact Nat.le_trans hbs h3.1⟩
section Calls
variable {Γ : Ga} {b : Nat} {σ : St} {cells slots pc nL : Nat} {lv lv' : List (Nat × Value)} {st stk : List Value} {μ : Mem} {cc : ByteArray} {own : String} {ret : Option FieldType} {rm : Room}
theorem g_widen {k n : Nat} (hk : cells ≤ k) (hn : slots ≤ n) (kk : Go Γ b σ k n pc lv st μ) : Go Γ b σ cells slots pc lv st μ := by
  obtain ⟨p, l, e, R, s, m, args, below, meth, c, G, n9, Q⟩ := Γ
  intro H locs ls h1 h2 h3 h4
  exact W.widen hk hn (kk H locs ls h1 h2 h3 h4)
theorem g_lv (hl : ∀ q ∈ lv', q ∈ lv) (kk : Go Γ b σ cells slots pc lv' st μ) : Go Γ b σ cells slots pc lv st μ := by
  obtain ⟨p, l, e, R, s, m, args, below, meth, c, G, n9, Q⟩ := Γ
  intro H locs ls h1 h2 h3 h4
  exact kk H locs ls h1 h2 h3 ⟨h4.1, h4.2.1, fun q hq => h4.2.2 q (hl q hq)⟩
theorem g_pick (ks : List Nat) (hl : lv_pick lv ks = lv') (kk : Go Γ b σ cells slots pc lv' st μ) : Go Γ b σ cells slots pc lv st μ := by
  obtain ⟨p, l, e, R, s, m, args, below, meth, c, G, n9, Q⟩ := Γ
  intro H locs ls h1 h2 h3 h4
  exact kk H locs ls h1 h2 h3 (lv_sub h4 ks hl)
theorem g_cVI (X : Cx Γ b cc nL own ret rm) {y : MethodName} {bytes : ByteArray} {maxL : Nat} {rt : Option FieldType} {rm1 : Room} {index n : Nat} {C : String} {post : Int32 → St → Mem → Prop} {q9 : vw_C} (a ci : Nat) (As : List Value) (hw9 : wcV own index C y bytes maxL rt n) (hM : MtI (gL Γ) y bytes maxL rt rm1 (gG Γ) b σ μ (.ref (σ.1 a) :: As) post) (d : decode cc pc = .ok (.invokevirtual index, 3)) (hst : stk = As.reverse ++ .ref (σ.1 a) :: st) (hn : As.length = n) (ha : a < σ.2.1) (hka : kd a = ci) (hci : ci < 10) (hC : vwCl[ci]? = some q9) (hC2 : q9.1 = C) (hR : rm1.frames + 1 ≤ rm.frames ∧ 8 + (maxL + 11) + rm1.locals ≤ rm.locals) (hf : cells + rm1.cells ≤ rm.cells ∧ slots + rm1.slots ≤ rm.slots) (hro : (st.map fun v => v.category).sum ≤ 8) (k : ∀ (r : Int32) (σ' : St) (μ' : Mem), post r σ' μ' → Go Γ b σ' (cells + rm1.cells) (slots + rm1.slots) (pc + 3) lv (.int r :: st) μ') : Go Γ b σ cells slots pc lv stk μ := by
  obtain ⟨p, l, e, R, s, m, args, below, meth, c, G, n9, Q⟩ := Γ
  obtain ⟨hx, hb, hml, hn9, hown, hts, hK, hr, hE, hbs, hrm⟩ := X
  subst hn9
  subst hrm
  intro H locs ls h1 h2 h3 h4
  subst hst
  subst hC2
  obtain ⟨w1, w2, w3, w4, w5, w6⟩ := hw9
  have hq : (wW G σ μ)[a]? = some (σ.1 a, .inr (ci, wfl σ μ ci a)) := by rw [wW_get ha, wE_obj hka hci]
  have hG := good_c w5
  have cw : CallW R s args own q9.1 index y bytes maxL rt (.code y bytes maxL rt :: WW) rm1 rm1.cells rm1.slots n := ⟨callB_of n hts hG rfl rfl rfl (by rw [w6.1]; exact hts _ w4) (hts _ w1) w6.2 hR, hts _ w2, hts _ w3⟩
  have hS9 := h3
  refine va_calli (va_runV (As := As) (rest := st) ⟨hx, hb, hml, hown, hts⟩ hM cw ⟨pre_blind, va_recv hK h1 hC hq, fun U hU hW => pre_at h1 h2 h3 hK hE hbs hU hW⟩ rfl hn h4.1 rfl (lv_room hro) d hf) hS9 (fun q _ h => h) (fun q h => h) (fun r u t H1 locs1 ht hvm hw hB hz1 hk1 hS1 => ?_)
  obtain ⟨σ1, μ1⟩ := u
  obtain ⟨e1, e2⟩ := hB
  rw [ht] at e1
  exact k r σ1 μ1 hw H1 locs1 ls e1 e2 hS1 h4
theorem g_cSI (X : Cx Γ b cc nL own ret rm) {y : MethodName} {bytes : ByteArray} {maxL : Nat} {rt : Option FieldType} {rm1 : Room} {index n : Nat} {post : Int32 → St → Mem → Prop} (As : List Value) (hw9 : wcS own index y bytes maxL rt n) (hM : MtI (gL Γ) y bytes maxL rt rm1 (gG Γ) b σ μ As post) (d : decode cc pc = .ok (.invokestatic index, 3)) (hst : stk = As.reverse ++ st) (hn : As.length = n) (hR : rm1.frames + 1 ≤ rm.frames ∧ 8 + (maxL + 11) + rm1.locals ≤ rm.locals) (hf : cells + rm1.cells ≤ rm.cells ∧ slots + rm1.slots ≤ rm.slots) (hro : (st.map fun v => v.category).sum ≤ 8) (k : ∀ (r : Int32) (σ' : St) (μ' : Mem), post r σ' μ' → Go Γ b σ' (cells + rm1.cells) (slots + rm1.slots) (pc + 3) lv (.int r :: st) μ') : Go Γ b σ cells slots pc lv stk μ := by
  obtain ⟨p, l, e, R, s, m, args, below, meth, c, G, n9, Q⟩ := Γ
  obtain ⟨hx, hb, hml, hn9, hown, hts, hK, hr, hE, hbs, hrm⟩ := X
  subst hn9
  subst hrm
  intro H locs ls h1 h2 h3 h4
  subst hst
  obtain ⟨w1, w2, w3, w4, w5⟩ := hw9
  have hG := good_c w4
  have cw : CallB R s args own index y bytes maxL rt (.code y bytes maxL rt :: WW) rm1 rm1.cells rm1.slots n ∧ (Cond.static y).before args s = true := ⟨callB_of n hts hG rfl rfl rfl (hts _ w3) (hts _ w1) w5 hR, hts _ w2⟩
  have hS9 := h3
  refine va_calli (va_runS (As := As) (rest := st) ⟨hx, hb, hml, hown, hts⟩ hM cw ⟨pre_blind, fun U hU hW => pre_at h1 h2 h3 hK hE hbs hU hW⟩ rfl hn h4.1 rfl (lv_room hro) d hf) hS9 (fun q _ h => h) (fun q h => h) (fun r u t H1 locs1 ht hvm hw hB hz1 hk1 hS1 => ?_)
  obtain ⟨σ1, μ1⟩ := u
  obtain ⟨e1, e2⟩ := hB
  rw [ht] at e1
  exact k r σ1 μ1 hw H1 locs1 ls e1 e2 hS1 h4
theorem g_cVL (X : Cx Γ b cc nL own ret rm) {y : MethodName} {bytes : ByteArray} {maxL : Nat} {rt : Option FieldType} {rm1 : Room} {index n : Nat} {C : String} {post : Int64 → St → Mem → Prop} {q9 : vw_C} (a ci : Nat) (As : List Value) (hw9 : wcV own index C y bytes maxL rt n) (hM : MtL (gL Γ) y bytes maxL rt rm1 (gG Γ) b σ μ (.ref (σ.1 a) :: As) post) (d : decode cc pc = .ok (.invokevirtual index, 3)) (hst : stk = As.reverse ++ .ref (σ.1 a) :: st) (hn : As.length = n) (ha : a < σ.2.1) (hka : kd a = ci) (hci : ci < 10) (hC : vwCl[ci]? = some q9) (hC2 : q9.1 = C) (hR : rm1.frames + 1 ≤ rm.frames ∧ 8 + (maxL + 11) + rm1.locals ≤ rm.locals) (hf : cells + rm1.cells ≤ rm.cells ∧ slots + rm1.slots ≤ rm.slots) (hro : (st.map fun v => v.category).sum ≤ 8) (k : ∀ (r : Int64) (σ' : St) (μ' : Mem), post r σ' μ' → Go Γ b σ' (cells + rm1.cells) (slots + rm1.slots) (pc + 3) lv (.long r :: st) μ') : Go Γ b σ cells slots pc lv stk μ := by
  obtain ⟨p, l, e, R, s, m, args, below, meth, c, G, n9, Q⟩ := Γ
  obtain ⟨hx, hb, hml, hn9, hown, hts, hK, hr, hE, hbs, hrm⟩ := X
  subst hn9
  subst hrm
  intro H locs ls h1 h2 h3 h4
  subst hst
  subst hC2
  obtain ⟨w1, w2, w3, w4, w5, w6⟩ := hw9
  have hq : (wW G σ μ)[a]? = some (σ.1 a, .inr (ci, wfl σ μ ci a)) := by rw [wW_get ha, wE_obj hka hci]
  have hG := good_c w5
  have cw : CallW R s args own q9.1 index y bytes maxL rt (.code y bytes maxL rt :: WW) rm1 rm1.cells rm1.slots n := ⟨callB_of n hts hG rfl rfl rfl (by rw [w6.1]; exact hts _ w4) (hts _ w1) w6.2 hR, hts _ w2, hts _ w3⟩
  have hS9 := h3
  refine va_calll (va_runV (As := As) (rest := st) ⟨hx, hb, hml, hown, hts⟩ hM cw ⟨pre_blind, va_recv hK h1 hC hq, fun U hU hW => pre_at h1 h2 h3 hK hE hbs hU hW⟩ rfl hn h4.1 rfl (lv_room hro) d hf) hS9 (fun q _ h => h) (fun q h => h) (fun r u t H1 locs1 ht hvm hw hB hz1 hk1 hS1 => ?_)
  obtain ⟨σ1, μ1⟩ := u
  obtain ⟨e1, e2⟩ := hB
  rw [ht] at e1
  exact k r σ1 μ1 hw H1 locs1 ls e1 e2 hS1 h4
theorem g_cSL (X : Cx Γ b cc nL own ret rm) {y : MethodName} {bytes : ByteArray} {maxL : Nat} {rt : Option FieldType} {rm1 : Room} {index n : Nat} {post : Int64 → St → Mem → Prop} (As : List Value) (hw9 : wcS own index y bytes maxL rt n) (hM : MtL (gL Γ) y bytes maxL rt rm1 (gG Γ) b σ μ As post) (d : decode cc pc = .ok (.invokestatic index, 3)) (hst : stk = As.reverse ++ st) (hn : As.length = n) (hR : rm1.frames + 1 ≤ rm.frames ∧ 8 + (maxL + 11) + rm1.locals ≤ rm.locals) (hf : cells + rm1.cells ≤ rm.cells ∧ slots + rm1.slots ≤ rm.slots) (hro : (st.map fun v => v.category).sum ≤ 8) (k : ∀ (r : Int64) (σ' : St) (μ' : Mem), post r σ' μ' → Go Γ b σ' (cells + rm1.cells) (slots + rm1.slots) (pc + 3) lv (.long r :: st) μ') : Go Γ b σ cells slots pc lv stk μ := by
  obtain ⟨p, l, e, R, s, m, args, below, meth, c, G, n9, Q⟩ := Γ
  obtain ⟨hx, hb, hml, hn9, hown, hts, hK, hr, hE, hbs, hrm⟩ := X
  subst hn9
  subst hrm
  intro H locs ls h1 h2 h3 h4
  subst hst
  obtain ⟨w1, w2, w3, w4, w5⟩ := hw9
  have hG := good_c w4
  have cw : CallB R s args own index y bytes maxL rt (.code y bytes maxL rt :: WW) rm1 rm1.cells rm1.slots n ∧ (Cond.static y).before args s = true := ⟨callB_of n hts hG rfl rfl rfl (hts _ w3) (hts _ w1) w5 hR, hts _ w2⟩
  have hS9 := h3
  refine va_calll (va_runS (As := As) (rest := st) ⟨hx, hb, hml, hown, hts⟩ hM cw ⟨pre_blind, fun U hU hW => pre_at h1 h2 h3 hK hE hbs hU hW⟩ rfl hn h4.1 rfl (lv_room hro) d hf) hS9 (fun q _ h => h) (fun q h => h) (fun r u t H1 locs1 ht hvm hw hB hz1 hk1 hS1 => ?_)
  obtain ⟨σ1, μ1⟩ := u
  obtain ⟨e1, e2⟩ := hB
  rw [ht] at e1
  exact k r σ1 μ1 hw H1 locs1 ls e1 e2 hS1 h4
theorem g_cVQ (X : Cx Γ b cc nL own ret rm) {y : MethodName} {bytes : ByteArray} {maxL : Nat} {rt : Option FieldType} {rm1 : Room} {index n : Nat} {C : String} {post : Option Nat → St → Mem → Prop} {q9 : vw_C} (a ci : Nat) (As : List Value) (hw9 : wcV own index C y bytes maxL rt n) (hM : MtQ (gL Γ) y bytes maxL rt rm1 (gG Γ) b σ μ (.ref (σ.1 a) :: As) post) (d : decode cc pc = .ok (.invokevirtual index, 3)) (hst : stk = As.reverse ++ .ref (σ.1 a) :: st) (hn : As.length = n) (ha : a < σ.2.1) (hka : kd a = ci) (hci : ci < 10) (hC : vwCl[ci]? = some q9) (hC2 : q9.1 = C) (hR : rm1.frames + 1 ≤ rm.frames ∧ 8 + (maxL + 11) + rm1.locals ≤ rm.locals) (hf : cells + rm1.cells ≤ rm.cells ∧ slots + rm1.slots ≤ rm.slots) (hro : (st.map fun v => v.category).sum ≤ 8) (k : ∀ (r : Option Nat) (σ' : St) (μ' : Mem), post r σ' μ' → Go Γ b σ' (cells + rm1.cells) (slots + rm1.slots) (pc + 3) lv (va_rf r :: st) μ') : Go Γ b σ cells slots pc lv stk μ := by
  obtain ⟨p, l, e, R, s, m, args, below, meth, c, G, n9, Q⟩ := Γ
  obtain ⟨hx, hb, hml, hn9, hown, hts, hK, hr, hE, hbs, hrm⟩ := X
  subst hn9
  subst hrm
  intro H locs ls h1 h2 h3 h4
  subst hst
  subst hC2
  obtain ⟨w1, w2, w3, w4, w5, w6⟩ := hw9
  have hq : (wW G σ μ)[a]? = some (σ.1 a, .inr (ci, wfl σ μ ci a)) := by rw [wW_get ha, wE_obj hka hci]
  have hG := good_c w5
  have cw : CallW R s args own q9.1 index y bytes maxL rt (.code y bytes maxL rt :: WW) rm1 rm1.cells rm1.slots n := ⟨callB_of n hts hG rfl rfl rfl (by rw [w6.1]; exact hts _ w4) (hts _ w1) w6.2 hR, hts _ w2, hts _ w3⟩
  have hS9 := h3
  refine va_callq (va_runV (As := As) (rest := st) ⟨hx, hb, hml, hown, hts⟩ hM cw ⟨pre_blind, va_recv hK h1 hC hq, fun U hU hW => pre_at h1 h2 h3 hK hE hbs hU hW⟩ rfl hn h4.1 rfl (lv_room hro) d hf) hS9 (fun q _ h => h) (fun q h => h) (fun r u t H1 locs1 ht hvm hw hB hz1 hk1 hS1 => ?_)
  obtain ⟨σ1, μ1⟩ := u
  obtain ⟨e1, e2⟩ := hB
  rw [ht] at e1
  exact k r σ1 μ1 hw H1 locs1 ls e1 e2 hS1 h4
theorem g_cSQ (X : Cx Γ b cc nL own ret rm) {y : MethodName} {bytes : ByteArray} {maxL : Nat} {rt : Option FieldType} {rm1 : Room} {index n : Nat} {post : Option Nat → St → Mem → Prop} (As : List Value) (hw9 : wcS own index y bytes maxL rt n) (hM : MtQ (gL Γ) y bytes maxL rt rm1 (gG Γ) b σ μ As post) (d : decode cc pc = .ok (.invokestatic index, 3)) (hst : stk = As.reverse ++ st) (hn : As.length = n) (hR : rm1.frames + 1 ≤ rm.frames ∧ 8 + (maxL + 11) + rm1.locals ≤ rm.locals) (hf : cells + rm1.cells ≤ rm.cells ∧ slots + rm1.slots ≤ rm.slots) (hro : (st.map fun v => v.category).sum ≤ 8) (k : ∀ (r : Option Nat) (σ' : St) (μ' : Mem), post r σ' μ' → Go Γ b σ' (cells + rm1.cells) (slots + rm1.slots) (pc + 3) lv (va_rf r :: st) μ') : Go Γ b σ cells slots pc lv stk μ := by
  obtain ⟨p, l, e, R, s, m, args, below, meth, c, G, n9, Q⟩ := Γ
  obtain ⟨hx, hb, hml, hn9, hown, hts, hK, hr, hE, hbs, hrm⟩ := X
  subst hn9
  subst hrm
  intro H locs ls h1 h2 h3 h4
  subst hst
  obtain ⟨w1, w2, w3, w4, w5⟩ := hw9
  have hG := good_c w4
  have cw : CallB R s args own index y bytes maxL rt (.code y bytes maxL rt :: WW) rm1 rm1.cells rm1.slots n ∧ (Cond.static y).before args s = true := ⟨callB_of n hts hG rfl rfl rfl (hts _ w3) (hts _ w1) w5 hR, hts _ w2⟩
  have hS9 := h3
  refine va_callq (va_runS (As := As) (rest := st) ⟨hx, hb, hml, hown, hts⟩ hM cw ⟨pre_blind, fun U hU hW => pre_at h1 h2 h3 hK hE hbs hU hW⟩ rfl hn h4.1 rfl (lv_room hro) d hf) hS9 (fun q _ h => h) (fun q h => h) (fun r u t H1 locs1 ht hvm hw hB hz1 hk1 hS1 => ?_)
  obtain ⟨σ1, μ1⟩ := u
  obtain ⟨e1, e2⟩ := hB
  rw [ht] at e1
  exact k r σ1 μ1 hw H1 locs1 ls e1 e2 hS1 h4
theorem g_cVV (X : Cx Γ b cc nL own ret rm) {y : MethodName} {bytes : ByteArray} {maxL : Nat} {rt : Option FieldType} {rm1 : Room} {index n : Nat} {C : String} {post : St → Mem → Prop} {q9 : vw_C} (a ci : Nat) (As : List Value) (hw9 : wcV own index C y bytes maxL rt n) (hM : MtV (gL Γ) y bytes maxL rt rm1 (gG Γ) b σ μ (.ref (σ.1 a) :: As) post) (d : decode cc pc = .ok (.invokevirtual index, 3)) (hst : stk = As.reverse ++ .ref (σ.1 a) :: st) (hn : As.length = n) (ha : a < σ.2.1) (hka : kd a = ci) (hci : ci < 10) (hC : vwCl[ci]? = some q9) (hC2 : q9.1 = C) (hR : rm1.frames + 1 ≤ rm.frames ∧ 8 + (maxL + 11) + rm1.locals ≤ rm.locals) (hf : cells + rm1.cells ≤ rm.cells ∧ slots + rm1.slots ≤ rm.slots) (hro : (st.map fun v => v.category).sum ≤ 8) (k : ∀ (σ' : St) (μ' : Mem), post σ' μ' → Go Γ b σ' (cells + rm1.cells) (slots + rm1.slots) (pc + 3) lv (st) μ') : Go Γ b σ cells slots pc lv stk μ := by
  obtain ⟨p, l, e, R, s, m, args, below, meth, c, G, n9, Q⟩ := Γ
  obtain ⟨hx, hb, hml, hn9, hown, hts, hK, hr, hE, hbs, hrm⟩ := X
  subst hn9
  subst hrm
  intro H locs ls h1 h2 h3 h4
  subst hst
  subst hC2
  obtain ⟨w1, w2, w3, w4, w5, w6⟩ := hw9
  have hq : (wW G σ μ)[a]? = some (σ.1 a, .inr (ci, wfl σ μ ci a)) := by rw [wW_get ha, wE_obj hka hci]
  have hG := good_c w5
  have cw : CallW R s args own q9.1 index y bytes maxL rt (.code y bytes maxL rt :: WW) rm1 rm1.cells rm1.slots n := ⟨callB_of n hts hG rfl rfl rfl (by rw [w6.1]; exact hts _ w4) (hts _ w1) w6.2 hR, hts _ w2, hts _ w3⟩
  have hS9 := h3
  refine va_callv (va_runV (As := As) (rest := st) ⟨hx, hb, hml, hown, hts⟩ hM cw ⟨pre_blind, va_recv hK h1 hC hq, fun U hU hW => pre_at h1 h2 h3 hK hE hbs hU hW⟩ rfl hn h4.1 rfl (lv_room hro) d hf) hS9 (fun q _ h => h) (fun q h => h) (fun u t H1 locs1 ht hvm hw hB hz1 hk1 hS1 => ?_)
  obtain ⟨σ1, μ1⟩ := u
  obtain ⟨e1, e2⟩ := hB
  rw [ht] at e1
  exact k σ1 μ1 hw H1 locs1 ls e1 e2 hS1 h4
theorem g_cSV (X : Cx Γ b cc nL own ret rm) {y : MethodName} {bytes : ByteArray} {maxL : Nat} {rt : Option FieldType} {rm1 : Room} {index n : Nat} {post : St → Mem → Prop} (As : List Value) (hw9 : wcS own index y bytes maxL rt n) (hM : MtV (gL Γ) y bytes maxL rt rm1 (gG Γ) b σ μ As post) (d : decode cc pc = .ok (.invokestatic index, 3)) (hst : stk = As.reverse ++ st) (hn : As.length = n) (hR : rm1.frames + 1 ≤ rm.frames ∧ 8 + (maxL + 11) + rm1.locals ≤ rm.locals) (hf : cells + rm1.cells ≤ rm.cells ∧ slots + rm1.slots ≤ rm.slots) (hro : (st.map fun v => v.category).sum ≤ 8) (k : ∀ (σ' : St) (μ' : Mem), post σ' μ' → Go Γ b σ' (cells + rm1.cells) (slots + rm1.slots) (pc + 3) lv (st) μ') : Go Γ b σ cells slots pc lv stk μ := by
  obtain ⟨p, l, e, R, s, m, args, below, meth, c, G, n9, Q⟩ := Γ
  obtain ⟨hx, hb, hml, hn9, hown, hts, hK, hr, hE, hbs, hrm⟩ := X
  subst hn9
  subst hrm
  intro H locs ls h1 h2 h3 h4
  subst hst
  obtain ⟨w1, w2, w3, w4, w5⟩ := hw9
  have hG := good_c w4
  have cw : CallB R s args own index y bytes maxL rt (.code y bytes maxL rt :: WW) rm1 rm1.cells rm1.slots n ∧ (Cond.static y).before args s = true := ⟨callB_of n hts hG rfl rfl rfl (hts _ w3) (hts _ w1) w5 hR, hts _ w2⟩
  have hS9 := h3
  refine va_callv (va_runS (As := As) (rest := st) ⟨hx, hb, hml, hown, hts⟩ hM cw ⟨pre_blind, fun U hU hW => pre_at h1 h2 h3 hK hE hbs hU hW⟩ rfl hn h4.1 rfl (lv_room hro) d hf) hS9 (fun q _ h => h) (fun q h => h) (fun u t H1 locs1 ht hvm hw hB hz1 hk1 hS1 => ?_)
  obtain ⟨σ1, μ1⟩ := u
  obtain ⟨e1, e2⟩ := hB
  rw [ht] at e1
  exact k σ1 μ1 hw H1 locs1 ls e1 e2 hS1 h4
theorem g_cIV (X : Cx Γ b cc nL own ret rm) {y : MethodName} {bytes : ByteArray} {maxL : Nat} {rm1 : Room} {index n : Nat} {post : St → Mem → Prop} {x : Nat} (As : List Value) (hw9 : wcI own index y bytes maxL n) (hM : MtV (gL Γ) y bytes maxL none rm1 (gG Γ) b σ μ (.ref x :: As) post) (d : decode cc pc = .ok (.invokespecial index, 3)) (hst : stk = As.reverse ++ .ref x :: st) (hn : As.length = n) (hR : rm1.frames + 1 ≤ rm.frames ∧ 8 + (maxL + 11) + rm1.locals ≤ rm.locals) (hf : cells + rm1.cells ≤ rm.cells ∧ slots + rm1.slots ≤ rm.slots) (hro : (st.map fun v => v.category).sum ≤ 8) (k : ∀ (σ' : St) (μ' : Mem), post σ' μ' → Go Γ b σ' (cells + rm1.cells) (slots + rm1.slots) (pc + 3) lv (st) μ') : Go Γ b σ cells slots pc lv stk μ := by
  obtain ⟨p, l, e, R, s, m, args, below, meth, c, G, n9, Q⟩ := Γ
  obtain ⟨hx, hb, hml, hn9, hown, hts, hK, hr, hE, hbs, hrm⟩ := X
  subst hn9
  subst hrm
  intro H locs ls h1 h2 h3 h4
  subst hst
  obtain ⟨w1, w2, w3, w4, w5, w6⟩ := hw9
  have hG := good_c w4
  have cw : CallB R s args own index y bytes maxL none (.code y bytes maxL none :: WW) rm1 rm1.cells rm1.slots n ∧ y.name = "<init>" ∧ (Cond.instanceMethod y).before args s = true := ⟨callB_of n hts hG rfl rfl rfl (hts _ w3) (hts _ w1) w6 hR, w5, hts _ w2⟩
  have hS9 := h3
  refine va_callv (va_runI (As := As) (rest := st) ⟨hx, hb, hml, hown, hts⟩ hM cw ⟨pre_blind, fun U hU hW => pre_at h1 h2 h3 hK hE hbs hU hW⟩ rfl hn h4.1 rfl (lv_room hro) d hf) hS9 (fun q _ h => h) (fun q h => h) (fun u t H1 locs1 ht hvm hw hB hz1 hk1 hS1 => ?_)
  obtain ⟨σ1, μ1⟩ := u
  obtain ⟨e1, e2⟩ := hB
  rw [ht] at e1
  exact k σ1 μ1 hw H1 locs1 ls e1 e2 hS1 h4
end Calls
theorem mtI_of {l : Launch} {y : MethodName} {cc : ByteArray} {maxL : Nat} {ret : Option FieldType} {rm : Room} {G : GG} {b : Nat} {σ : St} {μ : Mem} {vs : List Value} {post : Int32 → St → Mem → Prop} (hy : plainName y.cls = true) (hv : (lg_sl vs).length ≤ maxL) (ty9 : FieldType) (hrt : ret = some ty9)
    (body : ∀ Γ : Ga, gG Γ = G → Cx Γ b cc maxL y.cls ret rm → Γ.2.2.2.2.2.2.2.2.1.name = y.name → (∀ (pc : Nat) (lv : List (Nat × Value)) (r : Int32) (σ' : St) (μ' : Mem), decode cc pc = .ok (.ireturn, 1) → post r σ' μ' → narrow ty9 (.int r) = .int r → Go Γ b σ' rm.cells rm.slots pc lv [.int r] μ') → Go Γ b σ 0 0 0 (lv_args 0 vs) [] μ) : MtI l y cc maxL ret rm G b σ μ vs post := by
  refine Met.ofW (cc := cc) (maxL := maxL) (ret := ret) hy rfl ?_
  intro p e s m args below meth c s₁ B hml hvv
  obtain ⟨rfl, hP, hD, hK, hE, hbs⟩ := hvv
  have hx := B.exec
  have hb := B.bytes
  have hr := B.returns
  have hts0 := atoms_spec (ws := .code y cc maxL ret :: WW) B.pre
  have hown : s.vm.findClass y.cls = some m.cls := findClass_of_methodNamed B.named
  have hlocks := B.notSynchronized
  have hnm : meth.name = y.name := (name_of_methodNamed B.named B.method).1
  have hl := lv_entry vs (n := maxL) hv
  rw [lg_entry_eq]
  generalize (lg_sl vs ++ List.replicate (maxL - (lg_sl vs).length) Slot.unset).toArray = ls at hl ⊢
  refine body (p, l, e, (headSpec (.code y cc maxL ret :: WW) rm).room, s, m, vs.toArray, below, meth, c, G, maxL, _) rfl ⟨hx, hb, hml, rfl, hown, fun w hw => hts0 w (List.mem_cons_of_mem _ hw), hK, hr, hE, hbs, rfl⟩ hnm ?_ s.heap [] ls hP hD va_S.rf hl
  intro pc lv r σ' μ' d hpost hn9 H locs ls h1 h2 h3 h4
  refine W.zret (v := r) hx hb (hr.trans hrt) hn9 ?_ h3.2.2 d hlocks
  intro t ht hW
  refine ⟨⟨r, (σ', μ'), rfl, hpost, ?_⟩, ?_⟩
  · exact ⟨by rw [ht]; exact h1, h2⟩
  · exact h3.F ht
theorem mtL_of {l : Launch} {y : MethodName} {cc : ByteArray} {maxL : Nat} {ret : Option FieldType} {rm : Room} {G : GG} {b : Nat} {σ : St} {μ : Mem} {vs : List Value} {post : Int64 → St → Mem → Prop} (hy : plainName y.cls = true) (hv : (lg_sl vs).length ≤ maxL) (hrt : ret = some .long)
    (body : ∀ Γ : Ga, gG Γ = G → Cx Γ b cc maxL y.cls ret rm → Γ.2.2.2.2.2.2.2.2.1.name = y.name → (∀ (pc : Nat) (lv : List (Nat × Value)) (r : Int64) (σ' : St) (μ' : Mem), decode cc pc = .ok (.lreturn, 1) → post r σ' μ' → Go Γ b σ' rm.cells rm.slots pc lv [.long r] μ') → Go Γ b σ 0 0 0 (lv_args 0 vs) [] μ) : MtL l y cc maxL ret rm G b σ μ vs post := by
  refine Met.ofW (cc := cc) (maxL := maxL) (ret := ret) hy rfl ?_
  intro p e s m args below meth c s₁ B hml hvv
  obtain ⟨rfl, hP, hD, hK, hE, hbs⟩ := hvv
  have hx := B.exec
  have hb := B.bytes
  have hr := B.returns
  have hts0 := atoms_spec (ws := .code y cc maxL ret :: WW) B.pre
  have hown : s.vm.findClass y.cls = some m.cls := findClass_of_methodNamed B.named
  have hlocks := B.notSynchronized
  have hnm : meth.name = y.name := (name_of_methodNamed B.named B.method).1
  have hl := lv_entry vs (n := maxL) hv
  rw [lg_entry_eq]
  generalize (lg_sl vs ++ List.replicate (maxL - (lg_sl vs).length) Slot.unset).toArray = ls at hl ⊢
  refine body (p, l, e, (headSpec (.code y cc maxL ret :: WW) rm).room, s, m, vs.toArray, below, meth, c, G, maxL, _) rfl ⟨hx, hb, hml, rfl, hown, fun w hw => hts0 w (List.mem_cons_of_mem _ hw), hK, hr, hE, hbs, rfl⟩ hnm ?_ s.heap [] ls hP hD va_S.rf hl
  intro pc lv r σ' μ' d hpost H locs ls h1 h2 h3 h4
  refine W.lret (v := r) hx hb (hr.trans hrt) ?_ h3.2.2 d hlocks
  intro t ht hW
  refine ⟨⟨r, (σ', μ'), rfl, hpost, ?_⟩, ?_⟩
  · exact ⟨by rw [ht]; exact h1, h2⟩
  · exact h3.F ht
theorem mtQ_of {l : Launch} {y : MethodName} {cc : ByteArray} {maxL : Nat} {ret : Option FieldType} {rm : Room} {G : GG} {b : Nat} {σ : St} {μ : Mem} {vs : List Value} {post : Option Nat → St → Mem → Prop} (hy : plainName y.cls = true) (hv : (lg_sl vs).length ≤ maxL) (rt9 : FieldType) (hrt : ret = some rt9) (hrt2 : (∃ n, rt9 = .object n) ∨ ∃ t, rt9 = .array t)
    (body : ∀ Γ : Ga, gG Γ = G → Cx Γ b cc maxL y.cls ret rm → Γ.2.2.2.2.2.2.2.2.1.name = y.name → (∀ (pc : Nat) (lv : List (Nat × Value)) (r : Option Nat) (σ' : St) (μ' : Mem), decode cc pc = .ok (.areturn, 1) → post r σ' μ' → Go Γ b σ' rm.cells rm.slots pc lv [va_rf r] μ') → Go Γ b σ 0 0 0 (lv_args 0 vs) [] μ) : MtQ l y cc maxL ret rm G b σ μ vs post := by
  refine Met.ofW (cc := cc) (maxL := maxL) (ret := ret) hy rfl ?_
  intro p e s m args below meth c s₁ B hml hvv
  obtain ⟨rfl, hP, hD, hK, hE, hbs⟩ := hvv
  have hx := B.exec
  have hb := B.bytes
  have hr := B.returns
  have hts0 := atoms_spec (ws := .code y cc maxL ret :: WW) B.pre
  have hown : s.vm.findClass y.cls = some m.cls := findClass_of_methodNamed B.named
  have hlocks := B.notSynchronized
  have hnm : meth.name = y.name := (name_of_methodNamed B.named B.method).1
  have hl := lv_entry vs (n := maxL) hv
  rw [lg_entry_eq]
  generalize (lg_sl vs ++ List.replicate (maxL - (lg_sl vs).length) Slot.unset).toArray = ls at hl ⊢
  refine body (p, l, e, (headSpec (.code y cc maxL ret :: WW) rm).room, s, m, vs.toArray, below, meth, c, G, maxL, _) rfl ⟨hx, hb, hml, rfl, hown, fun w hw => hts0 w (List.mem_cons_of_mem _ hw), hK, hr, hE, hbs, rfl⟩ hnm ?_ s.heap [] ls hP hD va_S.rf hl
  intro pc lv r σ' μ' d hpost H locs ls h1 h2 h3 h4
  refine W.aret (v := va_rf r) hx hb (hr.trans hrt) hrt2 (by cases r with | none => exact Or.inl rfl | some z => exact Or.inr ⟨z, rfl⟩) ?_ h3.2.2 d hlocks
  intro t ht hW
  refine ⟨⟨r, (σ', μ'), rfl, hpost, ?_⟩, ?_⟩
  · exact ⟨by rw [ht]; exact h1, h2⟩
  · exact h3.F ht
theorem mtV_of {l : Launch} {y : MethodName} {cc : ByteArray} {maxL : Nat} {ret : Option FieldType} {rm : Room} {G : GG} {b : Nat} {σ : St} {μ : Mem} {vs : List Value} {post : St → Mem → Prop} (hy : plainName y.cls = true) (hv : (lg_sl vs).length ≤ maxL) (hrt : ret = none)
    (body : ∀ Γ : Ga, gG Γ = G → Cx Γ b cc maxL y.cls ret rm → Γ.2.2.2.2.2.2.2.2.1.name = y.name → (∀ (pc : Nat) (lv : List (Nat × Value)) (σ' : St) (μ' : Mem), decode cc pc = .ok (.return_, 1) → post σ' μ' → Go Γ b σ' rm.cells rm.slots pc lv [] μ') → Go Γ b σ 0 0 0 (lv_args 0 vs) [] μ) : MtV l y cc maxL ret rm G b σ μ vs post := by
  refine Met.ofW (cc := cc) (maxL := maxL) (ret := ret) hy rfl ?_
  intro p e s m args below meth c s₁ B hml hvv
  obtain ⟨rfl, hP, hD, hK, hE, hbs⟩ := hvv
  have hx := B.exec
  have hb := B.bytes
  have hr := B.returns
  have hts0 := atoms_spec (ws := .code y cc maxL ret :: WW) B.pre
  have hown : s.vm.findClass y.cls = some m.cls := findClass_of_methodNamed B.named
  have hlocks := B.notSynchronized
  have hnm : meth.name = y.name := (name_of_methodNamed B.named B.method).1
  have hl := lv_entry vs (n := maxL) hv
  rw [lg_entry_eq]
  generalize (lg_sl vs ++ List.replicate (maxL - (lg_sl vs).length) Slot.unset).toArray = ls at hl ⊢
  refine body (p, l, e, (headSpec (.code y cc maxL ret :: WW) rm).room, s, m, vs.toArray, below, meth, c, G, maxL, _) rfl ⟨hx, hb, hml, rfl, hown, fun w hw => hts0 w (List.mem_cons_of_mem _ hw), hK, hr, hE, hbs, rfl⟩ hnm ?_ s.heap [] ls hP hD va_S.rf hl
  intro pc lv σ' μ' d hpost H locs ls h1 h2 h3 h4
  refine W.vret hx hb (hr.trans hrt) ?_ h3.2.2 d hlocks
  intro t ht hW
  refine ⟨⟨(σ', μ'), rfl, hpost, ?_⟩, ?_⟩
  · exact ⟨by rw [ht]; exact h1, h2⟩
  · exact h3.F ht
theorem grd {α : Type} {c : Prop} {_ : Decidable c} {a : Option α} {r : α} (h : (if c then a else none) = some r) : c ∧ a = some r := by
  by_cases hc : c
  · rw [if_pos hc] at h; exact ⟨hc, h⟩
  · rw [if_neg hc] at h; cases h
theorem bnd {α β : Type} {x : Option α} {f : α → Option β} {r : β} (h : x.bind f = some r) : ∃ a, x = some a ∧ f a = some r := by
  cases x with
  | none => cases h
  | some a => exact ⟨a, rfl, h⟩
