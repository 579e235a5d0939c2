def dfl (c : Nat) : List Value := (List.range (nf c)).map (fun k => if ft c k = 0 then .int 0 else if ft c k = 1 then .long 0 else .null)
theorem dfl_E {G : GG} {σ : St} {μ : Mem} {q n c : Nat} (h : kd σ.2.1 = c) (hc : c < 10) : wE G (nS σ q n) (nM μ σ.2.1) σ.2.1 = .inr (c, dfl c) := by
  rw [wE_obj h hc]
  congr 2
  simp only [wfl, dfl, fv, nM, nS, va_up_self]
  rfl
theorem arr_E {G : GG} {σ : St} {μ : Mem} {q n c : Nat} (h : kd σ.2.1 = c) (hc : ¬ c < 10) (hc2 : c < 12) : wE G (nS σ q n) (nM μ σ.2.1) σ.2.1 = .inl (G.2.1 c, n, .inl (fun _ => 0)) := by
  rw [wE_int h hc hc2]
  simp only [nM, nS, va_up_self]
theorem ref_E {G : GG} {σ : St} {μ : Mem} {q n c : Nat} (h : kd σ.2.1 = c) (hc : ¬ c < 12) : wE G (nS σ q n) (nM μ σ.2.1) σ.2.1 = .inl (G.2.1 c, n, .inr (.inr (.inr (.inr (fun _ => none))))) := by
  rw [wE_ref h hc]
  simp only [nS, va_up_self]
theorem va_RA_eq {U : State} {a c : ClassId} {ty : FieldType} (h1 : va_RA U a ty) (h2 : va_RA U c ty) : a = c := by
  cases ty with
  | object C =>
    obtain ⟨_, _, _, _, _, e1⟩ := h1
    obtain ⟨_, _, _, _, _, e2⟩ := h2
    exact Option.some.inj (e1.symm.trans e2)
  | _ => exact Option.some.inj (Eq.trans (Eq.symm h1) h2)
section RowsA
variable {Γ : Ga} {b : Nat} {σ : St} {cells slots pc nL : Nat} {lv lv' : List (Nat × Value)} {st stk : List Value} {μ : Mem} {cc : ByteArray} {own : String} {ret : Option FieldType} {rm : Room}
theorem g_new (X : Cx Γ b cc nL own ret rm) {C : String} {TT : u_T} {tyf : Nat → FieldType} (c0 : Nat) {index : Nat} (d : decode cc pc = .ok (.new index, 3)) (hcl : Cond.classLink own index C ∈ WW) (hins : Cond.instantiable C (nf c0) ∈ WW) (hini : Cond.initialized C ∈ WW) (hc : vwCl[c0]? = some (C, TT, nf c0)) (hin : ∀ w ∈ u_ws C TT (nf c0), w ∈ WW) (hty : ∀ k, k < nf c0 → parseFieldDescriptor (TT k).2.2.1 = some (tyf k)) (hdv : ∀ j, j < nf c0 → defaultValue (tyf j) = vp_V (dfl c0) j) (hkd : kd σ.2.1 = c0) (hc9 : c0 < 10) (hcells : cells + 1 ≤ rm.cells) (hslots : slots + nf c0 ≤ rm.slots) (k : ∀ q : Nat, Go Γ b (nS σ q 0) (cells + 1) (slots + nf c0) (pc + 3) (lv) (.ref q :: st) (nM μ σ.2.1)) : Go Γ b (σ) (cells) (slots) (pc) (lv) (st) (μ) := by
  obtain ⟨p, l, e, R, s, m, args, below, meth, c, G, n9, Q⟩ := Γ
  obtain ⟨hx, hb, hml, hn9, hown, hts, hK, hr, hE, hbs, hrm⟩ := X
  subst hn9
  subst hrm
  have hA : ∀ q : Nat, s.heap.size ≤ q → wB b q := fun q h => Nat.le_trans hbs h
  intro H locs ls h1 h2 h3 h4
  refine va_new (ci := c0) hx hb hts hin tyf hty hown (hts _ hcl) (hts _ hins) (hts _ hini) hK h1 h2 h3 hA hc hdv hcells hslots d (fun q H1 e1 e2 e3 => ?_)
  rw [wW_push (n := 0) (dfl_E hkd hc9)] at e1 e2
  exact k q H1 locs ls e1 e2 e3 h4
theorem g_newaI (X : Cx Γ b cc nL own ret rm) {n : Int32} {N : Nat} (d : decode cc pc = .ok (.newarray .int, 2)) (hw : Cond.arrayClass FieldType.int ∈ WW) (hkd : kd σ.2.1 = 10) (hn : ¬ n < 0) (hN : n.toNatClampNeg = N) (hby : N ≤ 4096) (hcells : cells + 1 ≤ rm.cells) (hslots : slots + N ≤ rm.slots) (k : ∀ q : Nat, Go Γ b (nS σ q N) (cells + 1) (slots + N) (pc + 2) (lv) (.ref q :: st) (nM μ σ.2.1)) : Go Γ b (σ) (cells) (slots) (pc) (lv) (.int n :: st) (μ) := by
  obtain ⟨p, l, e, R, s, m, args, below, meth, c, G, n9, Q⟩ := Γ
  obtain ⟨hx, hb, hml, hn9, hown, hts, hK, hr, hE, hbs, hrm⟩ := X
  subst hn9
  subst hrm
  have hA : ∀ q : Nat, s.heap.size ≤ q → wB b q := fun q h => Nat.le_trans hbs h
  intro H locs ls h1 h2 h3 h4
  refine va_newa (atype := .int) hx hb (hts _ hw) rfl hK h1 h2 h3 hA (a0 := (N, .inl (fun _ => 0))) (fun cA => rfl) hn hN (by simp only [newarray.typeOf, componentBytes]; omega) hcells hslots d (fun q cA H1 e0 e1 e2 e3 => ?_)
  have ec : cA = G.2.1 10 := va_RA_eq (e0.2 5 (cA, .int) rfl).2 (hK.2 0 _ rfl).2
  subst ec
  rw [wW_push (n := N) (arr_E hkd (by decide) (by decide))] at e1 e2
  exact k q H1 locs ls e1 e2 e3 h4
theorem g_newaZ (X : Cx Γ b cc nL own ret rm) {n : Int32} {N : Nat} (d : decode cc pc = .ok (.newarray .boolean, 2)) (hw : Cond.arrayClass FieldType.boolean ∈ WW) (hkd : kd σ.2.1 = 11) (hn : ¬ n < 0) (hN : n.toNatClampNeg = N) (hby : N ≤ 4096) (hcells : cells + 1 ≤ rm.cells) (hslots : slots + N ≤ rm.slots) (k : ∀ q : Nat, Go Γ b (nS σ q N) (cells + 1) (slots + N) (pc + 2) (lv) (.ref q :: st) (nM μ σ.2.1)) : Go Γ b (σ) (cells) (slots) (pc) (lv) (.int n :: st) (μ) := by
  obtain ⟨p, l, e, R, s, m, args, below, meth, c, G, n9, Q⟩ := Γ
  obtain ⟨hx, hb, hml, hn9, hown, hts, hK, hr, hE, hbs, hrm⟩ := X
  subst hn9
  subst hrm
  have hA : ∀ q : Nat, s.heap.size ≤ q → wB b q := fun q h => Nat.le_trans hbs h
  intro H locs ls h1 h2 h3 h4
  refine va_newa (atype := .boolean) hx hb (hts _ hw) rfl hK h1 h2 h3 hA (a0 := (N, .inl (fun _ => 0))) (fun cA => rfl) hn hN (by simp only [newarray.typeOf, componentBytes]; omega) hcells hslots d (fun q cA H1 e0 e1 e2 e3 => ?_)
  have ec : cA = G.2.1 11 := va_RA_eq (e0.2 5 (cA, .boolean) rfl).2 (hK.2 1 _ rfl).2
  subst ec
  rw [wW_push (n := N) (arr_E hkd (by decide) (by decide))] at e1 e2
  exact k q H1 locs ls e1 e2 e3 h4
theorem g_newq12 (X : Cx Γ b cc nL own ret rm) {n : Int32} {N index : Nat} (d : decode cc pc = .ok (.anewarray index, 3)) (hcl : Cond.classLink own index RX6 ∈ WW) (hkd : kd σ.2.1 = 12) (hn : ¬ n < 0) (hN : n.toNatClampNeg = N) (hby : N ≤ 4096) (hcells : cells + 1 ≤ rm.cells) (hslots : slots + N ≤ rm.slots) (k : ∀ q : Nat, Go Γ b (nS σ q N) (cells + 1) (slots + N) (pc + 3) (lv) (.ref q :: st) (nM μ σ.2.1)) : Go Γ b (σ) (cells) (slots) (pc) (lv) (.int n :: st) (μ) := by
  obtain ⟨p, l, e, R, s, m, args, below, meth, c, G, n9, Q⟩ := Γ
  obtain ⟨hx, hb, hml, hn9, hown, hts, hK, hr, hE, hbs, hrm⟩ := X
  subst hn9
  subst hrm
  have hA : ∀ q : Nat, s.heap.size ≤ q → wB b q := fun q h => Nat.le_trans hbs h
  intro H locs ls h1 h2 h3 h4
  refine va_newq hx hb hown (hts _ hcl) (hE.2.2.2.2.2.2.2.2.2.2.2.2.2.2.2.1) hK h1 h2 h3 hA hn hN (by omega) hcells hslots d (fun q cA H1 e0 e1 e2 e3 => ?_)
  have ec : cA = G.2.1 12 := va_RA_eq (e0.2 5 (cA, .object RX6) rfl).2 (hK.2 2 _ rfl).2
  subst ec
  rw [wW_push (n := N) (ref_E hkd (by decide))] at e1 e2
  exact k q H1 locs ls e1 e2 e3 h4
theorem g_newq13 (X : Cx Γ b cc nL own ret rm) {n : Int32} {N index : Nat} (d : decode cc pc = .ok (.anewarray index, 3)) (hcl : Cond.classLink own index RX7 ∈ WW) (hkd : kd σ.2.1 = 13) (hn : ¬ n < 0) (hN : n.toNatClampNeg = N) (hby : N ≤ 4096) (hcells : cells + 1 ≤ rm.cells) (hslots : slots + N ≤ rm.slots) (k : ∀ q : Nat, Go Γ b (nS σ q N) (cells + 1) (slots + N) (pc + 3) (lv) (.ref q :: st) (nM μ σ.2.1)) : Go Γ b (σ) (cells) (slots) (pc) (lv) (.int n :: st) (μ) := by
  obtain ⟨p, l, e, R, s, m, args, below, meth, c, G, n9, Q⟩ := Γ
  obtain ⟨hx, hb, hml, hn9, hown, hts, hK, hr, hE, hbs, hrm⟩ := X
  subst hn9
  subst hrm
  have hA : ∀ q : Nat, s.heap.size ≤ q → wB b q := fun q h => Nat.le_trans hbs h
  intro H locs ls h1 h2 h3 h4
  refine va_newq hx hb hown (hts _ hcl) (hE.2.2.2.2.2.2.2.2.2.2.2.2.2.2.2.2.1) hK h1 h2 h3 hA hn hN (by omega) hcells hslots d (fun q cA H1 e0 e1 e2 e3 => ?_)
  have ec : cA = G.2.1 13 := va_RA_eq (e0.2 5 (cA, .object RX7) rfl).2 (hK.2 3 _ rfl).2
  subst ec
  rw [wW_push (n := N) (ref_E hkd (by decide))] at e1 e2
  exact k q H1 locs ls e1 e2 e3 h4
theorem g_newq14 (X : Cx Γ b cc nL own ret rm) {n : Int32} {N index : Nat} (d : decode cc pc = .ok (.anewarray index, 3)) (hcl : Cond.classLink own index RX8 ∈ WW) (hkd : kd σ.2.1 = 14) (hn : ¬ n < 0) (hN : n.toNatClampNeg = N) (hby : N ≤ 4096) (hcells : cells + 1 ≤ rm.cells) (hslots : slots + N ≤ rm.slots) (k : ∀ q : Nat, Go Γ b (nS σ q N) (cells + 1) (slots + N) (pc + 3) (lv) (.ref q :: st) (nM μ σ.2.1)) : Go Γ b (σ) (cells) (slots) (pc) (lv) (.int n :: st) (μ) := by
  obtain ⟨p, l, e, R, s, m, args, below, meth, c, G, n9, Q⟩ := Γ
  obtain ⟨hx, hb, hml, hn9, hown, hts, hK, hr, hE, hbs, hrm⟩ := X
  subst hn9
  subst hrm
  have hA : ∀ q : Nat, s.heap.size ≤ q → wB b q := fun q h => Nat.le_trans hbs h
  intro H locs ls h1 h2 h3 h4
  refine va_newq hx hb hown (hts _ hcl) (hE.2.2.2.2.2.2.2.2.2.2.2.2.2.2.2.2.2) hK h1 h2 h3 hA hn hN (by omega) hcells hslots d (fun q cA H1 e0 e1 e2 e3 => ?_)
  have ec : cA = G.2.1 14 := va_RA_eq (e0.2 5 (cA, .object RX8) rfl).2 (hK.2 4 _ rfl).2
  subst ec
  rw [wW_push (n := N) (ref_E hkd (by decide))] at e1 e2
  exact k q H1 locs ls e1 e2 e3 h4
theorem g_aast12 (X : Cx Γ b cc nL own ret rm) (a v : Nat) {n : Nat} {i : Int32} (d : decode cc pc = .ok (.aastore, 1)) (ha : a < σ.2.1) (hka : kd a = 12) (hz : σ.2.2.2 a = n) (hin : vp_in i n) (hv : v < σ.2.1) (hkv : kd v = 5) (k9 : Go Γ b (pR σ a i.toNatClampNeg (some (σ.1 v))) (cells) (slots) (pc + 1) (lv) (st) (μ)) : Go Γ b (σ) (cells) (slots) (pc) (lv) (.ref (σ.1 v) :: .int i :: .ref (σ.1 a) :: st) (μ) := by
  obtain ⟨p, l, e, R, s, m, args, below, meth, c, G, n9, Q⟩ := Γ
  obtain ⟨hx, hb, hml, hn9, hown, hts, hK, hr, hE, hbs, hrm⟩ := X
  subst hn9
  subst hrm
  have hA : ∀ q : Nat, s.heap.size ≤ q → wB b q := fun q h => Nat.le_trans hbs h
  intro H locs ls h1 h2 h3 h4
  have hq : (wW G σ μ)[a]? = some (σ.1 a, .inl (G.2.1 12, σ.2.2.2 a, .inr (.inr (.inr (.inr (σ.2.2.1 a)))))) := by rw [wW_get ha, wE_ref hka (by decide)]
  have hqv : (wW G σ μ)[v]? = some (σ.1 v, .inr (5, wfl σ μ 5 v)) := by rw [wW_get hv, wE_obj hkv (by decide)]
  subst hz
  refine va_astq hx hb hK h1 h2 h3 a 2 v 5 hq rfl hqv rfl hin d (fun H1 locs1 e1 e2 e3 => ?_)
  have e0 := wW_set (G := G) (σ := σ) (τ := pR σ a i.toNatClampNeg (some (σ.1 v))) (μ := μ) (ν := μ) (a := a) rfl rfl (fun j hj => pR_o hj) (pR_a hka (by decide))
  rw [e0] at e1 e2
  exact k9 H1 locs1 ls e1 e2 e3 h4
theorem g_aast13 (X : Cx Γ b cc nL own ret rm) (a v : Nat) {n : Nat} {i : Int32} (d : decode cc pc = .ok (.aastore, 1)) (ha : a < σ.2.1) (hka : kd a = 13) (hz : σ.2.2.2 a = n) (hin : vp_in i n) (hv : v < σ.2.1) (hkv : kd v = 6) (k9 : Go Γ b (pR σ a i.toNatClampNeg (some (σ.1 v))) (cells) (slots) (pc + 1) (lv) (st) (μ)) : Go Γ b (σ) (cells) (slots) (pc) (lv) (.ref (σ.1 v) :: .int i :: .ref (σ.1 a) :: st) (μ) := by
  obtain ⟨p, l, e, R, s, m, args, below, meth, c, G, n9, Q⟩ := Γ
  obtain ⟨hx, hb, hml, hn9, hown, hts, hK, hr, hE, hbs, hrm⟩ := X
  subst hn9
  subst hrm
  have hA : ∀ q : Nat, s.heap.size ≤ q → wB b q := fun q h => Nat.le_trans hbs h
  intro H locs ls h1 h2 h3 h4
  have hq : (wW G σ μ)[a]? = some (σ.1 a, .inl (G.2.1 13, σ.2.2.2 a, .inr (.inr (.inr (.inr (σ.2.2.1 a)))))) := by rw [wW_get ha, wE_ref hka (by decide)]
  have hqv : (wW G σ μ)[v]? = some (σ.1 v, .inr (6, wfl σ μ 6 v)) := by rw [wW_get hv, wE_obj hkv (by decide)]
  subst hz
  refine va_astq hx hb hK h1 h2 h3 a 3 v 6 hq rfl hqv rfl hin d (fun H1 locs1 e1 e2 e3 => ?_)
  have e0 := wW_set (G := G) (σ := σ) (τ := pR σ a i.toNatClampNeg (some (σ.1 v))) (μ := μ) (ν := μ) (a := a) rfl rfl (fun j hj => pR_o hj) (pR_a hka (by decide))
  rw [e0] at e1 e2
  exact k9 H1 locs1 ls e1 e2 e3 h4
theorem g_aast14 (X : Cx Γ b cc nL own ret rm) (a v : Nat) {n : Nat} {i : Int32} (d : decode cc pc = .ok (.aastore, 1)) (ha : a < σ.2.1) (hka : kd a = 14) (hz : σ.2.2.2 a = n) (hin : vp_in i n) (hv : v < σ.2.1) (hkv : kd v = 7) (k9 : Go Γ b (pR σ a i.toNatClampNeg (some (σ.1 v))) (cells) (slots) (pc + 1) (lv) (st) (μ)) : Go Γ b (σ) (cells) (slots) (pc) (lv) (.ref (σ.1 v) :: .int i :: .ref (σ.1 a) :: st) (μ) := by
  obtain ⟨p, l, e, R, s, m, args, below, meth, c, G, n9, Q⟩ := Γ
  obtain ⟨hx, hb, hml, hn9, hown, hts, hK, hr, hE, hbs, hrm⟩ := X
  subst hn9
  subst hrm
  have hA : ∀ q : Nat, s.heap.size ≤ q → wB b q := fun q h => Nat.le_trans hbs h
  intro H locs ls h1 h2 h3 h4
  have hq : (wW G σ μ)[a]? = some (σ.1 a, .inl (G.2.1 14, σ.2.2.2 a, .inr (.inr (.inr (.inr (σ.2.2.1 a)))))) := by rw [wW_get ha, wE_ref hka (by decide)]
  have hqv : (wW G σ μ)[v]? = some (σ.1 v, .inr (7, wfl σ μ 7 v)) := by rw [wW_get hv, wE_obj hkv (by decide)]
  subst hz
  refine va_astq hx hb hK h1 h2 h3 a 4 v 7 hq rfl hqv rfl hin d (fun H1 locs1 e1 e2 e3 => ?_)
  have e0 := wW_set (G := G) (σ := σ) (τ := pR σ a i.toNatClampNeg (some (σ.1 v))) (μ := μ) (ν := μ) (a := a) rfl rfl (fun j hj => pR_o hj) (pR_a hka (by decide))
  rw [e0] at e1 e2
  exact k9 H1 locs1 ls e1 e2 e3 h4
theorem g_oinit (X : Cx Γ b cc nL own ret rm) {x index : Nat} (d : decode cc pc = .ok (.invokespecial index, 3)) (hl : Cond.methodLink own index objectInit ∈ WW) (hi : Cond.instanceMethod objectInit ∈ WW) (hco : Cond.code objectInit ⟨#[0xb1]⟩ 1 none ∈ WW) (hfr : 1 ≤ rm.frames) (hlo : (st.map fun v => v.category).sum + 12 ≤ rm.locals) (k : Go Γ b (σ) (cells) (slots) (pc + 3) (lv) (st) (μ)) : Go Γ b (σ) (cells) (slots) (pc) (lv) (.ref x :: st) (μ) := by
  obtain ⟨p, l, e, R, s, m, args, below, meth, c, G, n9, Q⟩ := Γ
  obtain ⟨hx, hb, hml, hn9, hown, hts, hK, hr, hE, hbs, hrm⟩ := X
  subst hn9
  subst hrm
  have hA : ∀ q : Nat, s.heap.size ≤ q → wB b q := fun q h => Nat.le_trans hbs h
  intro H locs ls h1 h2 h3 h4
  refine W.objInit hx hb hown (hts _ hl) (hts _ hi) (hts _ hco) rfl (by rw [hml]; exact h4.1) rfl d hfr (by show 2 * 0 + _ + 12 ≤ _; omega) ?_
  exact W.eq (g2 := F0 m (pc + 3) ls st) rfl (k H locs ls h1 h2 h3 h4)
theorem g_cNR (X : Cx Γ b cc nL RX9 ret rm) {bytes : ByteArray} {maxL : Nat} {rm1 : Room} {post : St → Mem → Prop} {x : Nat} (hin9 : Cond.initialized yX4_init.cls ∈ WW) (him : Cond.instanceMethod yX4_init ∈ WW) (hco : Cond.code yX4_init bytes maxL none ∈ WW) (hM : MtV (gL Γ) yX4_init bytes maxL none rm1 (gG Γ) b σ μ [.ref x] post) (d : decode cc pc = .ok (.invokespecial 9, 3)) (hR : rm1.frames + 1 ≤ rm.frames ∧ 8 + (maxL + 11) + rm1.locals ≤ rm.locals) (hf : cells + rm1.cells ≤ rm.cells ∧ slots + rm1.slots ≤ rm.slots) (hro : (st.map fun v => v.category).sum ≤ 8) (k : ∀ (σ' : St) (μ' : Mem), post σ' μ' → Go Γ b σ' (cells + rm1.cells) (slots + rm1.slots) (pc + 3) lv st μ') : Go Γ b σ cells slots pc lv (.ref x :: st) μ := by
  obtain ⟨p, l, e, R, s, m, args, below, meth, c, G, n9, Q⟩ := Γ
  obtain ⟨hx, hb, hml, hn9, hown, hts, hK, hr, hE, hbs, hrm⟩ := X
  subst hn9
  subst hrm
  have hA : ∀ q : Nat, s.heap.size ≤ q → wB b q := fun q h => Nat.le_trans hbs h
  intro H locs ls h1 h2 h3 h4
  have hG := good_c hco
  have cw : va_CN R s args RX9 9 yX4_init RX9 bytes maxL none (.code yX4_init bytes maxL none :: WW) rm1 rm1.cells rm1.slots 0 ∧ yX4_init.name = "<init>" ∧ (Cond.instanceMethod yX4_init).before args s = true := ⟨va_cnB 0 hts hG rfl rfl rfl (hE.2.2.2.2.2.2.2.2.2.2.1) (hts _ hin9) (by decide +kernel) hR, rfl, hts _ him⟩
  refine va_callv (va_runIN (As := []) (rest := st) ⟨hx, hb, hml, hown, hts⟩ hM cw ⟨pre_blind, fun U hU hW => pre_at h1 h2 h3 hK hE hbs hU hW⟩ rfl rfl h4.1 rfl (lv_room hro) d hf) h3 (fun q _ h => h) (fun q h => h) (fun u t H1 locs1 ht hvm hw hB hz1 hk1 hS1 => ?_)
  obtain ⟨σ1, μ1⟩ := u
  obtain ⟨e1, e2⟩ := hB
  rw [ht] at e1
  exact k σ1 μ1 hw H1 locs1 ls e1 e2 hS1 h4
theorem g_cNF (X : Cx Γ b cc nL RX9 ret rm) {bytes : ByteArray} {maxL : Nat} {rm1 : Room} {post : St → Mem → Prop} {x : Nat} (hin9 : Cond.initialized yX0_init.cls ∈ WW) (him : Cond.instanceMethod yX0_init ∈ WW) (hco : Cond.code yX0_init bytes maxL none ∈ WW) (hM : MtV (gL Γ) yX0_init bytes maxL none rm1 (gG Γ) b σ μ [.ref x] post) (d : decode cc pc = .ok (.invokespecial 18, 3)) (hR : rm1.frames + 1 ≤ rm.frames ∧ 8 + (maxL + 11) + rm1.locals ≤ rm.locals) (hf : cells + rm1.cells ≤ rm.cells ∧ slots + rm1.slots ≤ rm.slots) (hro : (st.map fun v => v.category).sum ≤ 8) (k : ∀ (σ' : St) (μ' : Mem), post σ' μ' → Go Γ b σ' (cells + rm1.cells) (slots + rm1.slots) (pc + 3) lv st μ') : Go Γ b σ cells slots pc lv (.ref x :: st) μ := by
  obtain ⟨p, l, e, R, s, m, args, below, meth, c, G, n9, Q⟩ := Γ
  obtain ⟨hx, hb, hml, hn9, hown, hts, hK, hr, hE, hbs, hrm⟩ := X
  subst hn9
  subst hrm
  have hA : ∀ q : Nat, s.heap.size ≤ q → wB b q := fun q h => Nat.le_trans hbs h
  intro H locs ls h1 h2 h3 h4
  have hG := good_c hco
  have cw : va_CN R s args RX9 18 yX0_init RX9 bytes maxL none (.code yX0_init bytes maxL none :: WW) rm1 rm1.cells rm1.slots 0 ∧ yX0_init.name = "<init>" ∧ (Cond.instanceMethod yX0_init).before args s = true := ⟨va_cnB 0 hts hG rfl rfl rfl (hE.2.2.2.2.2.2.2.2.2.2.2.1) (hts _ hin9) (by decide +kernel) hR, rfl, hts _ him⟩
  refine va_callv (va_runIN (As := []) (rest := st) ⟨hx, hb, hml, hown, hts⟩ hM cw ⟨pre_blind, fun U hU hW => pre_at h1 h2 h3 hK hE hbs hU hW⟩ rfl rfl h4.1 rfl (lv_room hro) d hf) h3 (fun q _ h => h) (fun q h => h) (fun u t H1 locs1 ht hvm hw hB hz1 hk1 hS1 => ?_)
  obtain ⟨σ1, μ1⟩ := u
  obtain ⟨e1, e2⟩ := hB
  rw [ht] at e1
  exact k σ1 μ1 hw H1 locs1 ls e1 e2 hS1 h4
theorem g_cND (X : Cx Γ b cc nL RX9 ret rm) {bytes : ByteArray} {maxL : Nat} {rm1 : Room} {post : St → Mem → Prop} {x : Nat} (hin9 : Cond.initialized yX3_init.cls ∈ WW) (him : Cond.instanceMethod yX3_init ∈ WW) (hco : Cond.code yX3_init bytes maxL none ∈ WW) (hM : MtV (gL Γ) yX3_init bytes maxL none rm1 (gG Γ) b σ μ [.ref x] post) (d : decode cc pc = .ok (.invokespecial 38, 3)) (hR : rm1.frames + 1 ≤ rm.frames ∧ 8 + (maxL + 11) + rm1.locals ≤ rm.locals) (hf : cells + rm1.cells ≤ rm.cells ∧ slots + rm1.slots ≤ rm.slots) (hro : (st.map fun v => v.category).sum ≤ 8) (k : ∀ (σ' : St) (μ' : Mem), post σ' μ' → Go Γ b σ' (cells + rm1.cells) (slots + rm1.slots) (pc + 3) lv st μ') : Go Γ b σ cells slots pc lv (.ref x :: st) μ := by
  obtain ⟨p, l, e, R, s, m, args, below, meth, c, G, n9, Q⟩ := Γ
  obtain ⟨hx, hb, hml, hn9, hown, hts, hK, hr, hE, hbs, hrm⟩ := X
  subst hn9
  subst hrm
  have hA : ∀ q : Nat, s.heap.size ≤ q → wB b q := fun q h => Nat.le_trans hbs h
  intro H locs ls h1 h2 h3 h4
  have hG := good_c hco
  have cw : va_CN R s args RX9 38 yX3_init RX9 bytes maxL none (.code yX3_init bytes maxL none :: WW) rm1 rm1.cells rm1.slots 0 ∧ yX3_init.name = "<init>" ∧ (Cond.instanceMethod yX3_init).before args s = true := ⟨va_cnB 0 hts hG rfl rfl rfl (hE.2.2.2.2.2.2.2.2.2.2.2.2.1) (hts _ hin9) (by decide +kernel) hR, rfl, hts _ him⟩
  refine va_callv (va_runIN (As := []) (rest := st) ⟨hx, hb, hml, hown, hts⟩ hM cw ⟨pre_blind, fun U hU hW => pre_at h1 h2 h3 hK hE hbs hU hW⟩ rfl rfl h4.1 rfl (lv_room hro) d hf) h3 (fun q _ h => h) (fun q h => h) (fun u t H1 locs1 ht hvm hw hB hz1 hk1 hS1 => ?_)
  obtain ⟨σ1, μ1⟩ := u
  obtain ⟨e1, e2⟩ := hB
  rw [ht] at e1
  exact k σ1 μ1 hw H1 locs1 ls e1 e2 hS1 h4
theorem g_cNV (X : Cx Γ b cc nL RX5 ret rm) {bytes : ByteArray} {maxL : Nat} {rm1 : Room} {post : St → Mem → Prop} {x : Nat} (hin9 : Cond.initialized yX8_init.cls ∈ WW) (him : Cond.instanceMethod yX8_init ∈ WW) (hco : Cond.code yX8_init bytes maxL none ∈ WW) (hM : MtV (gL Γ) yX8_init bytes maxL none rm1 (gG Γ) b σ μ [.ref x] post) (d : decode cc pc = .ok (.invokespecial 38, 3)) (hR : rm1.frames + 1 ≤ rm.frames ∧ 8 + (maxL + 11) + rm1.locals ≤ rm.locals) (hf : cells + rm1.cells ≤ rm.cells ∧ slots + rm1.slots ≤ rm.slots) (hro : (st.map fun v => v.category).sum ≤ 8) (k : ∀ (σ' : St) (μ' : Mem), post σ' μ' → Go Γ b σ' (cells + rm1.cells) (slots + rm1.slots) (pc + 3) lv st μ') : Go Γ b σ cells slots pc lv (.ref x :: st) μ := by
  obtain ⟨p, l, e, R, s, m, args, below, meth, c, G, n9, Q⟩ := Γ
  obtain ⟨hx, hb, hml, hn9, hown, hts, hK, hr, hE, hbs, hrm⟩ := X
  subst hn9
  subst hrm
  have hA : ∀ q : Nat, s.heap.size ≤ q → wB b q := fun q h => Nat.le_trans hbs h
  intro H locs ls h1 h2 h3 h4
  have hG := good_c hco
  have cw : va_CN R s args RX5 38 yX8_init RX9 bytes maxL none (.code yX8_init bytes maxL none :: WW) rm1 rm1.cells rm1.slots 0 ∧ yX8_init.name = "<init>" ∧ (Cond.instanceMethod yX8_init).before args s = true := ⟨va_cnB 0 hts hG rfl rfl rfl (hE.2.2.2.2.2.2.2.2.2.2.2.2.2.1) (hts _ hin9) (by decide +kernel) hR, rfl, hts _ him⟩
  refine va_callv (va_runIN (As := []) (rest := st) ⟨hx, hb, hml, hown, hts⟩ hM cw ⟨pre_blind, fun U hU hW => pre_at h1 h2 h3 hK hE hbs hU hW⟩ rfl rfl h4.1 rfl (lv_room hro) d hf) h3 (fun q _ h => h) (fun q h => h) (fun u t H1 locs1 ht hvm hw hB hz1 hk1 hS1 => ?_)
  obtain ⟨σ1, μ1⟩ := u
  obtain ⟨e1, e2⟩ := hB
  rw [ht] at e1
  exact k σ1 μ1 hw H1 locs1 ls e1 e2 hS1 h4
theorem g_cNS (X : Cx Γ b cc nL RX9 ret rm) {bytes : ByteArray} {maxL : Nat} {rm1 : Room} {post : St → Mem → Prop} {x : Nat} (hin9 : Cond.initialized yX6_init.cls ∈ WW) (him : Cond.instanceMethod yX6_init ∈ WW) (hco : Cond.code yX6_init bytes maxL none ∈ WW) (hM : MtV (gL Γ) yX6_init bytes maxL none rm1 (gG Γ) b σ μ [.ref x] post) (d : decode cc pc = .ok (.invokespecial 81, 3)) (hR : rm1.frames + 1 ≤ rm.frames ∧ 8 + (maxL + 11) + rm1.locals ≤ rm.locals) (hf : cells + rm1.cells ≤ rm.cells ∧ slots + rm1.slots ≤ rm.slots) (hro : (st.map fun v => v.category).sum ≤ 8) (k : ∀ (σ' : St) (μ' : Mem), post σ' μ' → Go Γ b σ' (cells + rm1.cells) (slots + rm1.slots) (pc + 3) lv st μ') : Go Γ b σ cells slots pc lv (.ref x :: st) μ := by
  obtain ⟨p, l, e, R, s, m, args, below, meth, c, G, n9, Q⟩ := Γ
  obtain ⟨hx, hb, hml, hn9, hown, hts, hK, hr, hE, hbs, hrm⟩ := X
  subst hn9
  subst hrm
  have hA : ∀ q : Nat, s.heap.size ≤ q → wB b q := fun q h => Nat.le_trans hbs h
  intro H locs ls h1 h2 h3 h4
  have hG := good_c hco
  have cw : va_CN R s args RX9 81 yX6_init RX9 bytes maxL none (.code yX6_init bytes maxL none :: WW) rm1 rm1.cells rm1.slots 0 ∧ yX6_init.name = "<init>" ∧ (Cond.instanceMethod yX6_init).before args s = true := ⟨va_cnB 0 hts hG rfl rfl rfl (hE.2.2.2.2.2.2.2.2.2.2.2.2.2.2.1) (hts _ hin9) (by decide +kernel) hR, rfl, hts _ him⟩
  refine va_callv (va_runIN (As := []) (rest := st) ⟨hx, hb, hml, hown, hts⟩ hM cw ⟨pre_blind, fun U hU hW => pre_at h1 h2 h3 hK hE hbs hU hW⟩ rfl rfl h4.1 rfl (lv_room hro) d hf) h3 (fun q _ h => h) (fun q h => h) (fun u t H1 locs1 ht hvm hw hB hz1 hk1 hS1 => ?_)
  obtain ⟨σ1, μ1⟩ := u
  obtain ⟨e1, e2⟩ := hB
  rw [ht] at e1
  exact k σ1 μ1 hw H1 locs1 ls e1 e2 hS1 h4
end RowsA
theorem dv_X0 : ∀ j, j < nf 0 → defaultValue (tyX0 j) = vp_V (dfl 0) j := by decide +kernel
theorem dv_X2 : ∀ j, j < nf 1 → defaultValue (tyX2 j) = vp_V (dfl 1) j := by decide +kernel
theorem dv_X3 : ∀ j, j < nf 2 → defaultValue (tyX3 j) = vp_V (dfl 2) j := by decide +kernel
theorem dv_X4 : ∀ j, j < nf 3 → defaultValue (tyX4 j) = vp_V (dfl 3) j := by decide +kernel
theorem dv_X5 : ∀ j, j < nf 4 → defaultValue (tyX5 j) = vp_V (dfl 4) j := by decide +kernel
theorem dv_X6 : ∀ j, j < nf 5 → defaultValue (tyX6 j) = vp_V (dfl 5) j := by decide +kernel
theorem dv_X7 : ∀ j, j < nf 6 → defaultValue (tyX7 j) = vp_V (dfl 6) j := by decide +kernel
theorem dv_X8 : ∀ j, j < nf 7 → defaultValue (tyX8 j) = vp_V (dfl 7) j := by decide +kernel
theorem dv_X9 : ∀ j, j < nf 8 → defaultValue (tyX9 j) = vp_V (dfl 8) j := by decide +kernel
theorem dv_X10 : ∀ j, j < nf 9 → defaultValue (tyX10 j) = vp_V (dfl 9) j := by decide +kernel
