/-! memory: ints and longs by cell and place (Mem); addresses, how many cells, references, lengths (St) -/
abbrev Mem : Type := (Nat → Nat → Int32) × (Nat → Nat → Int64)
abbrev St : Type := (Nat → Nat) × Nat × (Nat → Nat → Option Nat) × (Nat → Nat)
def kdL : List Nat := [8, 3, 10, 10, 10, 0, 10, 10, 10, 10, 10, 10, 3, 10, 10, 10, 0, 10, 10, 10, 10, 10, 10, 0, 10, 10, 10, 10, 10, 10, 2, 10, 10, 4, 13, 14, 10, 10, 7, 10, 7, 10, 7, 10, 7, 10, 7, 10, 7, 10, 1, 12, 6, 10, 10, 5, 10, 5, 10, 5, 10, 5, 10, 9, 10, 10, 10, 10, 10, 10, 10, 10, 10, 10, 10, 11, 10, 10, 10]
def kd (a : Nat) : Nat := if a < 79 then kdL.getD a 10 else if (a - 79) % 3 = 0 then 6 else 10
def ftL : List (List Nat) := [[0, 0, 0, 2, 2, 2, 2, 2, 2], [2], [2, 0, 0, 0, 0, 0, 0, 0, 2, 0], [2, 2, 2, 0, 0], [2, 2, 0, 2, 2, 2], [0, 0, 2], [2, 2, 0, 0], [1, 0, 2], [2, 2, 2, 2, 0, 2, 2, 2, 2, 2], [0, 2, 2, 0, 0, 2, 0, 0, 2, 2, 2, 0, 2, 0, 0, 0, 0, 0, 0, 0, 0, 0, 0, 0, 1, 0, 0, 0, 2, 0, 2, 2, 2, 0, 0, 0, 2, 2, 2, 2]]
def nf (c : Nat) : Nat := (ftL.getD c []).length
def ft (c k : Nat) : Nat := (ftL.getD c []).getD k 0
abbrev GG : Type := va_G × (Nat → ClassId) × (Nat → Nat)
def fv (σ : St) (μ : Mem) (t a k : Nat) : Value := if t = 0 then .int (μ.1 a k) else if t = 1 then .long (μ.2 a k) else va_rf (σ.2.2.1 a k)
def wfl (σ : St) (μ : Mem) (c a : Nat) : List Value := (List.range (nf c)).map (fun k => fv σ μ (ft c k) a k)
def wE (G : GG) (σ : St) (μ : Mem) (a : Nat) : va_E := if kd a < 10 then .inr (kd a, wfl σ μ (kd a) a) else if kd a < 12 then .inl (G.2.1 (kd a), σ.2.2.2 a, .inl (μ.1 a)) else .inl (G.2.1 (kd a), σ.2.2.2 a, .inr (.inr (.inr (.inr (σ.2.2.1 a)))))
def wW (G : GG) (σ : St) (μ : Mem) : va_W := (List.range σ.2.1).map (fun a => (σ.1 a, wE G σ μ a))
def wT (G : GG) : List (ClassId × FieldType) := [(G.2.1 10, .int), (G.2.1 11, .boolean), (G.2.1 12, .object RX6), (G.2.1 13, .object RX7), (G.2.1 14, .object RX8)]
def wB (b : Nat) : Nat → Prop := fun q => b ≤ q
def pI (μ : Mem) (a k : Nat) (v : Int32) : Mem := (va_up μ.1 a (upd (μ.1 a) k v), μ.2)
def pJ (μ : Mem) (a k : Nat) (v : Int64) : Mem := (μ.1, va_up μ.2 a (vp_updL (μ.2 a) k v))
def pR (σ : St) (a k : Nat) (v : Option Nat) : St := (σ.1, σ.2.1, va_up σ.2.2.1 a (va_up (σ.2.2.1 a) k v), σ.2.2.2)
/-- a fresh cell at address q, of n places: all 0, null -/
def nM (μ : Mem) (a : Nat) : Mem := (va_up μ.1 a (fun _ => 0), va_up μ.2 a (fun _ => 0))
def nS (σ : St) (q n : Nat) : St := (va_up σ.1 σ.2.1 q, σ.2.1 + 1, va_up σ.2.2.1 σ.2.1 (fun _ => none), va_up σ.2.2.2 σ.2.1 n)
theorem wW_get {G : GG} {σ : St} {μ : Mem} {a : Nat} (h : a < σ.2.1) : (wW G σ μ)[a]? = some (σ.1 a, wE G σ μ a) := by simp [wW, h]
theorem wE_congr {G : GG} {σ τ : St} {μ ν : Mem} {a : Nat} (h1 : μ.1 a = ν.1 a) (h2 : μ.2 a = ν.2 a) (h3 : σ.2.2.1 a = τ.2.2.1 a) (h4 : σ.2.2.2 a = τ.2.2.2 a) : wE G σ μ a = wE G τ ν a := by
  simp only [wE, wfl, fv, h1, h2, h3, h4]
theorem wW_set {G : GG} {σ τ : St} {μ ν : Mem} {a : Nat} {e : va_E} (h1 : τ.1 = σ.1) (h2 : τ.2.1 = σ.2.1) (ho : ∀ j, j ≠ a → wE G τ ν j = wE G σ μ j) (he : wE G τ ν a = e) : (wW G σ μ).set a (σ.1 a, e) = wW G τ ν := by
  apply List.ext_getElem?
  intro j
  by_cases hj : j < σ.2.1
  · rw [wW_get (σ := τ) (by rw [h2]; exact hj), h1]
    by_cases h : j = a
    · subst h
      rw [List.getElem?_set_self (by simp [wW]; exact hj), he]
    · rw [List.getElem?_set_ne (Ne.symm h), wW_get hj, ho j h]
  · rw [List.getElem?_eq_none (by simp [wW]; omega), List.getElem?_eq_none (by simp [wW]; omega)]
theorem wW_push {G : GG} {σ : St} {μ : Mem} {q n : Nat} {e : va_E} (he : wE G (nS σ q n) (nM μ σ.2.1) σ.2.1 = e) : wW G σ μ ++ [(q, e)] = wW G (nS σ q n) (nM μ σ.2.1) := by
  simp only [wW]
  rw [show (nS σ q n).2.1 = σ.2.1 + 1 from rfl, List.range_succ, List.map_append, List.map_cons, List.map_nil, he]
  rw [show (nS σ q n).1 σ.2.1 = q from va_up_self _ _ _]
  congr 1
  apply List.map_congr_left
  intro j hj
  have hne : j ≠ σ.2.1 := Nat.ne_of_lt (List.mem_range.mp hj)
  rw [show (nS σ q n).1 j = σ.1 j from va_up_ne _ _ hne, wE_congr (σ := nS σ q n) (τ := σ) (μ := nM μ σ.2.1) (ν := μ) (va_up_ne _ _ hne) (va_up_ne _ _ hne) (va_up_ne _ _ hne) (va_up_ne _ _ hne)]
theorem wfl_get {σ : St} {μ : Mem} {c a k : Nat} (h : k < nf c) : (wfl σ μ c a)[k]? = some (fv σ μ (ft c k) a k) := by simp [wfl, h]
theorem wfl_len {σ : St} {μ : Mem} {c a : Nat} : (wfl σ μ c a).length = nf c := by simp [wfl]
theorem wfl_set {σ τ : St} {μ ν : Mem} {c a k : Nat} {v : Value} (ho : ∀ j, j ≠ k → fv τ ν (ft c j) a j = fv σ μ (ft c j) a j) (he : fv τ ν (ft c k) a k = v) : wfl τ ν c a = (wfl σ μ c a).set k v := by
  apply List.ext_getElem?
  intro j
  by_cases hj : j < nf c
  · rw [wfl_get hj]
    by_cases h : j = k
    · subst h
      rw [List.getElem?_set_self (by rw [wfl_len]; exact hj), he]
    · rw [List.getElem?_set_ne (Ne.symm h), wfl_get hj, ho j h]
  · rw [List.getElem?_eq_none (by rw [wfl_len]; omega), List.getElem?_eq_none (by rw [List.length_set, wfl_len]; omega)]
theorem pI_o {σ : St} {μ : Mem} {a k : Nat} {v : Int32} {G : GG} {j : Nat} (h : j ≠ a) : wE G σ (pI μ a k v) j = wE G σ μ j := wE_congr (va_up_ne _ _ h) rfl rfl rfl
theorem pJ_o {σ : St} {μ : Mem} {a k : Nat} {v : Int64} {G : GG} {j : Nat} (h : j ≠ a) : wE G σ (pJ μ a k v) j = wE G σ μ j := wE_congr rfl (va_up_ne _ _ h) rfl rfl
theorem pR_o {σ : St} {μ : Mem} {a k : Nat} {v : Option Nat} {G : GG} {j : Nat} (h : j ≠ a) : wE G (pR σ a k v) μ j = wE G σ μ j := wE_congr rfl rfl (va_up_ne _ _ h) rfl
theorem wE_obj {G : GG} {σ : St} {μ : Mem} {a c : Nat} (h : kd a = c) (hc : c < 10) : wE G σ μ a = .inr (c, wfl σ μ c a) := by subst h; simp only [wE, if_pos hc]
theorem wE_int {G : GG} {σ : St} {μ : Mem} {a c : Nat} (h : kd a = c) (hc : ¬ c < 10) (hc2 : c < 12) : wE G σ μ a = .inl (G.2.1 c, σ.2.2.2 a, .inl (μ.1 a)) := by subst h; simp only [wE, if_neg hc, if_pos hc2]
theorem wE_ref {G : GG} {σ : St} {μ : Mem} {a c : Nat} (h : kd a = c) (hc : ¬ c < 12) : wE G σ μ a = .inl (G.2.1 c, σ.2.2.2 a, .inr (.inr (.inr (.inr (σ.2.2.1 a))))) := by subst h; simp only [wE, if_neg hc, if_neg (show ¬ kd a < 10 by omega)]
theorem pI_f {σ : St} {μ : Mem} {a c k : Nat} {v : Int32} {G : GG} (h : kd a = c) (hc : c < 10) (ht : ft c k = 0) : wE G σ (pI μ a k v) a = .inr (c, (wfl σ μ c a).set k (.int v)) := by
  rw [wE_obj h hc, wfl_set (σ := σ) (μ := μ)]
  · intro j hj
    simp only [fv, pI, va_up_self]
    split
    · simp [upd, hj]
    · rfl
  · simp [fv, ht, pI, va_up_self, upd]
theorem pJ_f {σ : St} {μ : Mem} {a c k : Nat} {v : Int64} {G : GG} (h : kd a = c) (hc : c < 10) (ht : ft c k = 1) : wE G σ (pJ μ a k v) a = .inr (c, (wfl σ μ c a).set k (.long v)) := by
  rw [wE_obj h hc, wfl_set (σ := σ) (μ := μ)]
  · intro j hj
    simp only [fv, pJ, va_up_self]
    split
    · rfl
    · split
      · simp [vp_updL, hj]
      · rfl
  · simp [fv, ht, pJ, va_up_self, vp_updL]
theorem pR_f {σ : St} {μ : Mem} {a c k : Nat} {v : Option Nat} {G : GG} (h : kd a = c) (hc : c < 10) (ht : ft c k = 2) : wE G (pR σ a k v) μ a = .inr (c, (wfl σ μ c a).set k (va_rf v)) := by
  rw [wE_obj h hc, wfl_set (σ := σ) (μ := μ)]
  · intro j hj
    simp only [fv, pR, va_up_self]
    split
    · rfl
    · split
      · rfl
      · rw [va_up_ne _ _ hj]
  · simp [fv, ht, pR, va_up_self]
theorem pI_a {σ : St} {μ : Mem} {a c k : Nat} {v : Int32} {G : GG} (h : kd a = c) (hc : ¬ c < 10) (hc2 : c < 12) : wE G σ (pI μ a k v) a = .inl (G.2.1 c, σ.2.2.2 a, .inl (upd (μ.1 a) k v)) := by
  rw [wE_int h hc hc2]
  simp only [pI, va_up_self]
theorem pR_a {σ : St} {μ : Mem} {a c k : Nat} {v : Option Nat} {G : GG} (h : kd a = c) (hc : ¬ c < 12) : wE G (pR σ a k v) μ a = .inl (G.2.1 c, σ.2.2.2 a, .inr (.inr (.inr (.inr (va_up (σ.2.2.1 a) k v))))) := by
  rw [wE_ref h hc]
  simp only [pR, va_up_self]
/-- what lies below: the two tables, the three texts -/
def xB : List (List Int32) := [[116, 97, 107, 101, 115, 32, 110, 111, 116, 32, 104, 101, 114, 101, 32, 59, 32, 119, 111, 114, 116, 104, 32, 102, 97, 114, 32, 59, 32, 116, 105, 109, 101, 115, 32, 49, 32, 43, 32, 102, 97, 114, 32, 59], [116, 97, 107, 101, 115, 32, 119, 111, 114, 116, 104, 32, 116, 105, 109, 101, 115, 32, 111, 114, 32, 97, 110, 100, 32, 110, 111, 116, 32, 112, 108, 97, 99, 101, 32, 110, 117, 109, 98, 101, 114, 32, 107, 110, 111, 119, 110, 32, 102, 97, 114, 32, 104, 101, 114, 101, 32, 114, 111, 117, 110, 100, 32], [40, 41, 59, 43, 45, 42, 60, 61]]
def xL : List Nat := xB.map List.length
def Ext (G : GG) (b : Nat) (U : State) (H : Heap) : Prop :=
  va_Z "PaidInKind" "MOST_SET" "[I" (.ref (G.2.2 0)) (wB b) U H ∧ va_T .int (G.2.2 0) 5 (fun j => .int (([999, 9, 7, 255, 255] : List Int32).getD j 0)) (wB b) U H ∧
  va_Z "PaidInKind$Kinds" "ABOVE" "[I" (.ref (G.2.2 1)) (wB b) U H ∧ va_T .int (G.2.2 1) 6 (fun j => .int (([-1, 0, 0, 1, 2, 0] : List Int32).getD j 0)) (wB b) U H ∧
  va_Z "java/lang/String" "COMPACT_STRINGS" "Z" (.int 1) (wB b) U H ∧ va_Zq "jdk/internal/util/Preconditions" "SIOOBE_FORMATTER" "Ljava/util/function/BiFunction;" (wB b) U H ∧
  vk_S 3 xL xB (fun i => G.2.2 (2 + i)) (fun i => G.2.2 (5 + i)) (wB b) U H ∧
  vk_R RX9 67 "takes not here ; worth far ; times 1 + far ;" (G.2.2 2) U ∧ vk_R RX3 104 "takes worth times or and not place number known far here round " (G.2.2 3) U ∧ vk_R RX3 99 "();+-*<=" (G.2.2 4) U ∧
  va_Nw (.methodLinkNest RX9 9 yX4_init RX9) U ∧ va_Nw (.methodLinkNest RX9 18 yX0_init RX9) U ∧ va_Nw (.methodLinkNest RX9 38 yX3_init RX9) U ∧ va_Nw (.methodLinkNest RX5 38 yX8_init RX9) U ∧ va_Nw (.methodLinkNest RX9 81 yX6_init RX9) U ∧
  va_AO RX6 U ∧ va_AO RX7 U ∧ va_AO RX8 U
theorem Ext.mv {G : GG} {b : Nat} {s U : State} {H : Heap} {locs : List Loc} (h : Ext G b s s.heap) (hS : va_S (wB b) s.heap H locs) (hw : s.WarmedH U.vm) (hU : U.heap = H) : Ext G b U U.heap := by
  subst hU
  obtain ⟨h1, h2, h3, h4, h5, h6, h7, h8, h9, h10, n1, n2, n3, n4, n5, a1, a2, a3⟩ := h
  have ha := hw.alike
  have hq : ∀ a : Nat, a < s.heap.size → ¬ wB b a → U.heap[a]? = s.heap[a]? := hS.2.1
  exact ⟨(va_Z.moved ha h1).kept hq, (va_T.moved ha h2).kept hq, (va_Z.moved ha h3).kept hq, (va_T.moved ha h4).kept hq, (va_Z.moved ha h5).kept hq, (va_Zq.moved ha h6).kept hq, (vk_S.moved ha h7).kept hq, vk_R.warm hw h8, vk_R.warm hw h9, vk_R.warm hw h10, va_Nw.warmM hw n1, va_Nw.warmM hw n2, va_Nw.warmM hw n3, va_Nw.warmM hw n4, va_Nw.warmM hw n5, va_AO.moved ha a1, va_AO.moved ha a2, va_AO.moved ha a3⟩
theorem Ext.cl {G : GG} {b : Nat} {U V : State} (h : Ext G b U U.heap) (hv : V.vm = U.vm) (hh : V.heap = U.heap) : Ext G b V V.heap := by
  have ha : U.vm.Alike V.vm := by rw [hv]; exact Vm.Alike.refl U.vm
  rw [hh]
  obtain ⟨h1, h2, h3, h4, h5, h6, h7, h8, h9, h10, n1, n2, n3, n4, n5, a1, a2, a3⟩ := h
  exact ⟨va_Z.moved ha h1, va_T.moved ha h2, va_Z.moved ha h3, va_T.moved ha h4, va_Z.moved ha h5, va_Zq.moved ha h6, vk_S.moved ha h7, vk_R.same hv h8, vk_R.same hv h9, vk_R.same hv h10, va_Nw.same rfl hv.symm n1, va_Nw.same rfl hv.symm n2, va_Nw.same rfl hv.symm n3, va_Nw.same rfl hv.symm n4, va_Nw.same rfl hv.symm n5, va_AO.moved ha a1, va_AO.moved ha a2, va_AO.moved ha a3⟩
abbrev Ga : Type := Program × Launch × Env × Room × State × MethodId × Array Value × List Frame × Method × Code × GG × Nat × (State → Prop)
abbrev gL (Γ : Ga) : Launch := Γ.2.1
abbrev gG (Γ : Ga) : GG := Γ.2.2.2.2.2.2.2.2.2.2.1
/-- the machine at a frame, over the memory σ, μ: it comes to Q -/
def Go (Γ : Ga) (b : Nat) (σ : St) (cells slots pc : Nat) (lv : List (Nat × Value)) (st : List Value) (μ : Mem) : Prop := match Γ with
  | (p, l, e, R, s, m, args, below, meth, c, G, nL, Q) => ∀ (H : Heap) (locs : List Loc) (ls : Array Slot), va_P G.1 vwCl (wW G σ μ) H → va_D (wB b) (wW G σ μ) → va_S (wB b) s.heap H locs → lv_has ls nL lv → W p l e R s m args below meth c H locs cells slots Q (F0 m pc ls st)
/-- what is fixed in a method's walk -/
def Cx (Γ : Ga) (b : Nat) (cc : ByteArray) (nL : Nat) (own : String) (ret : Option FieldType) (rm : Room) : Prop := match Γ with
  | (p, _, _, R, s, m, args, _, meth, c, G, n, _) => p.tables.exec = Jvm.exec ∧ c.code = cc ∧ c.maxLocals = nL ∧ n = nL ∧ s.vm.findClass own = some m.cls ∧ (∀ w ∈ WW, w.before args s = true) ∧ va_K G.1 vwCl (wT G) s ∧ meth.sig.returnType = ret ∧ Ext G b s s.heap ∧ b ≤ s.heap.size ∧ R = rm
section Rows
variable {Γ : Ga} {b : Nat} {σ : St} {cells slots pc nL : Nat} {lv lv' : List (Nat × Value)} {st : List Value} {μ : Mem} {cc : ByteArray} {own : String} {ret : Option FieldType} {rm : Room}
theorem g_iconst (X : Cx Γ b cc nL own ret rm) {n : _} {v : Int32} (d : decode cc pc = .ok (.iconst n, 1)) (hv : Int32.ofInt n = v) (k : Go Γ b (σ) (cells) (slots) (pc + 1) (lv) (.int v :: st) (μ)) : Go Γ b (σ) (cells) (slots) (pc) (lv) (st) (μ) := by
  obtain ⟨p, l, e, R, s, m, args, below, meth, c, G, n9, Q⟩ := Γ
  obtain ⟨hx, hb, hml, hn9, hown, hts, hK, hr, hE, hbs, hrm⟩ := X
  subst hn9
  intro H locs ls h1 h2 h3 h4
  exact lv_iconst hx hb d hv (k H locs ls h1 h2 h3 h4)
theorem g_bipush (X : Cx Γ b cc nL own ret rm) {n : _} {v : Int32} (d : decode cc pc = .ok (.bipush n, 2)) (hv : (Int8.ofInt n).toInt32 = v) (k : Go Γ b (σ) (cells) (slots) (pc + 2) (lv) (.int v :: st) (μ)) : Go Γ b (σ) (cells) (slots) (pc) (lv) (st) (μ) := by
  obtain ⟨p, l, e, R, s, m, args, below, meth, c, G, n9, Q⟩ := Γ
  obtain ⟨hx, hb, hml, hn9, hown, hts, hK, hr, hE, hbs, hrm⟩ := X
  subst hn9
  intro H locs ls h1 h2 h3 h4
  exact lv_bipush hx hb d hv (k H locs ls h1 h2 h3 h4)
theorem g_sipush (X : Cx Γ b cc nL own ret rm) {n : _} {v : Int32} (d : decode cc pc = .ok (.sipush n, 3)) (hv : (Int16.ofInt n).toInt32 = v) (k : Go Γ b (σ) (cells) (slots) (pc + 3) (lv) (.int v :: st) (μ)) : Go Γ b (σ) (cells) (slots) (pc) (lv) (st) (μ) := by
  obtain ⟨p, l, e, R, s, m, args, below, meth, c, G, n9, Q⟩ := Γ
  obtain ⟨hx, hb, hml, hn9, hown, hts, hK, hr, hE, hbs, hrm⟩ := X
  subst hn9
  intro H locs ls h1 h2 h3 h4
  exact lv_sipush hx hb d hv (k H locs ls h1 h2 h3 h4)
theorem g_lconst (X : Cx Γ b cc nL own ret rm) {n : _} {v : Int64} (d : decode cc pc = .ok (.lconst n, 1)) (hv : Int64.ofNat (n : Nat) = v) (k : Go Γ b (σ) (cells) (slots) (pc + 1) (lv) (.long v :: st) (μ)) : Go Γ b (σ) (cells) (slots) (pc) (lv) (st) (μ) := by
  obtain ⟨p, l, e, R, s, m, args, below, meth, c, G, n9, Q⟩ := Γ
  obtain ⟨hx, hb, hml, hn9, hown, hts, hK, hr, hE, hbs, hrm⟩ := X
  subst hn9
  intro H locs ls h1 h2 h3 h4
  exact lv_lconst hx hb d hv (k H locs ls h1 h2 h3 h4)
theorem g_ldc (X : Cx Γ b cc nL own ret rm) {index : Nat} {v : Int32} (d : decode cc pc = .ok (.ldc index, 2)) (hw : Cond.constant own index v ∈ WW) (k : Go Γ b (σ) (cells) (slots) (pc + 2) (lv) (.int v :: st) (μ)) : Go Γ b (σ) (cells) (slots) (pc) (lv) (st) (μ) := by
  obtain ⟨p, l, e, R, s, m, args, below, meth, c, G, n9, Q⟩ := Γ
  obtain ⟨hx, hb, hml, hn9, hown, hts, hK, hr, hE, hbs, hrm⟩ := X
  subst hn9
  intro H locs ls h1 h2 h3 h4
  exact lv_ldc hx hb hown (hts _ hw) d (k H locs ls h1 h2 h3 h4)
theorem g_ldc_w (X : Cx Γ b cc nL own ret rm) {index : Nat} {v : Int32} (d : decode cc pc = .ok (.ldc_w index, 3)) (hw : Cond.constant own index v ∈ WW) (k : Go Γ b (σ) (cells) (slots) (pc + 3) (lv) (.int v :: st) (μ)) : Go Γ b (σ) (cells) (slots) (pc) (lv) (st) (μ) := by
  obtain ⟨p, l, e, R, s, m, args, below, meth, c, G, n9, Q⟩ := Γ
  obtain ⟨hx, hb, hml, hn9, hown, hts, hK, hr, hE, hbs, hrm⟩ := X
  subst hn9
  intro H locs ls h1 h2 h3 h4
  exact lv_ldcw hx hb hown (hts _ hw) d (k H locs ls h1 h2 h3 h4)
theorem g_ldc2 (X : Cx Γ b cc nL own ret rm) {index : Nat} {v : Int64} (d : decode cc pc = .ok (.ldc2_w index, 3)) (hw : Cond.constantLong own index v ∈ WW) (k : Go Γ b (σ) (cells) (slots) (pc + 3) (lv) (.long v :: st) (μ)) : Go Γ b (σ) (cells) (slots) (pc) (lv) (st) (μ) := by
  obtain ⟨p, l, e, R, s, m, args, below, meth, c, G, n9, Q⟩ := Γ
  obtain ⟨hx, hb, hml, hn9, hown, hts, hK, hr, hE, hbs, hrm⟩ := X
  subst hn9
  intro H locs ls h1 h2 h3 h4
  exact lv_ldc2 hx hb hown (hts _ hw) d (k H locs ls h1 h2 h3 h4)
theorem g_iload_n (X : Cx Γ b cc nL own ret rm) {k9 : _} {i : Nat} {x : Int32} (j : Nat) (d : decode cc pc = .ok (.iload_n k9, 1)) (hi : (k9 : Nat) = i) (hj : lv[j]? = some (i, .int x)) (k : Go Γ b (σ) (cells) (slots) (pc + 1) (lv) (.int x :: st) (μ)) : Go Γ b (σ) (cells) (slots) (pc) (lv) (st) (μ) := by
  obtain ⟨p, l, e, R, s, m, args, below, meth, c, G, n9, Q⟩ := Γ
  obtain ⟨hx, hb, hml, hn9, hown, hts, hK, hr, hE, hbs, hrm⟩ := X
  subst hn9
  intro H locs ls h1 h2 h3 h4
  exact lv_iload_n hx hb d hi (lv_at h4 j hj) (k H locs ls h1 h2 h3 h4)
theorem g_iload (X : Cx Γ b cc nL own ret rm) {i : Nat} {x : Int32} (j : Nat) (d : decode cc pc = .ok (.iload i, 2)) (hj : lv[j]? = some (i, .int x)) (k : Go Γ b (σ) (cells) (slots) (pc + 2) (lv) (.int x :: st) (μ)) : Go Γ b (σ) (cells) (slots) (pc) (lv) (st) (μ) := by
  obtain ⟨p, l, e, R, s, m, args, below, meth, c, G, n9, Q⟩ := Γ
  obtain ⟨hx, hb, hml, hn9, hown, hts, hK, hr, hE, hbs, hrm⟩ := X
  subst hn9
  intro H locs ls h1 h2 h3 h4
  exact lv_iload hx hb d (lv_at h4 j hj) (k H locs ls h1 h2 h3 h4)
theorem g_istore_n (X : Cx Γ b cc nL own ret rm) {k9 : _} {i : Nat} {x : Int32} (d : decode cc pc = .ok (.istore_n k9, 1)) (hi : (k9 : Nat) = i) (hn : i < nL) (hl : (i, Value.int x) :: lv.filter (fun q => !(q.1 == i) && !(q.1 + 1 == i && q.2.category == 2)) = lv') (k : Go Γ b (σ) (cells) (slots) (pc + 1) (lv') (st) (μ)) : Go Γ b (σ) (cells) (slots) (pc) (lv) (.int x :: st) (μ) := by
  obtain ⟨p, l, e, R, s, m, args, below, meth, c, G, n9, Q⟩ := Γ
  obtain ⟨hx, hb, hml, hn9, hown, hts, hK, hr, hE, hbs, hrm⟩ := X
  subst hn9
  intro H locs ls h1 h2 h3 h4
  exact lv_istore_n hx hb d hi h4 hn hl (fun ls h4 => k H locs ls h1 h2 h3 h4)
theorem g_istore (X : Cx Γ b cc nL own ret rm) {i : Nat} {x : Int32} (d : decode cc pc = .ok (.istore i, 2)) (hn : i < nL) (hl : (i, Value.int x) :: lv.filter (fun q => !(q.1 == i) && !(q.1 + 1 == i && q.2.category == 2)) = lv') (k : Go Γ b (σ) (cells) (slots) (pc + 2) (lv') (st) (μ)) : Go Γ b (σ) (cells) (slots) (pc) (lv) (.int x :: st) (μ) := by
  obtain ⟨p, l, e, R, s, m, args, below, meth, c, G, n9, Q⟩ := Γ
  obtain ⟨hx, hb, hml, hn9, hown, hts, hK, hr, hE, hbs, hrm⟩ := X
  subst hn9
  intro H locs ls h1 h2 h3 h4
  exact lv_istore hx hb d h4 hn hl (fun ls h4 => k H locs ls h1 h2 h3 h4)
theorem g_lload_n (X : Cx Γ b cc nL own ret rm) {k9 : _} {i : Nat} {x : Int64} (j : Nat) (d : decode cc pc = .ok (.lload_n k9, 1)) (hi : (k9 : Nat) = i) (hj : lv[j]? = some (i, .long x)) (k : Go Γ b (σ) (cells) (slots) (pc + 1) (lv) (.long x :: st) (μ)) : Go Γ b (σ) (cells) (slots) (pc) (lv) (st) (μ) := by
  obtain ⟨p, l, e, R, s, m, args, below, meth, c, G, n9, Q⟩ := Γ
  obtain ⟨hx, hb, hml, hn9, hown, hts, hK, hr, hE, hbs, hrm⟩ := X
  subst hn9
  intro H locs ls h1 h2 h3 h4
  exact lv_lload_n hx hb d hi (lv_at h4 j hj) (k H locs ls h1 h2 h3 h4)
theorem g_lload (X : Cx Γ b cc nL own ret rm) {i : Nat} {x : Int64} (j : Nat) (d : decode cc pc = .ok (.lload i, 2)) (hj : lv[j]? = some (i, .long x)) (k : Go Γ b (σ) (cells) (slots) (pc + 2) (lv) (.long x :: st) (μ)) : Go Γ b (σ) (cells) (slots) (pc) (lv) (st) (μ) := by
  obtain ⟨p, l, e, R, s, m, args, below, meth, c, G, n9, Q⟩ := Γ
  obtain ⟨hx, hb, hml, hn9, hown, hts, hK, hr, hE, hbs, hrm⟩ := X
  subst hn9
  intro H locs ls h1 h2 h3 h4
  exact lv_lload hx hb d (lv_at h4 j hj) (k H locs ls h1 h2 h3 h4)
theorem g_lstore_n (X : Cx Γ b cc nL own ret rm) {k9 : _} {i : Nat} {x : Int64} (d : decode cc pc = .ok (.lstore_n k9, 1)) (hi : (k9 : Nat) = i) (hn : i + 1 < nL) (hl : (i, Value.long x) :: lv.filter (fun q => !(q.1 == i) && (!(q.1 == i + 1) && !(q.1 + 1 == i && q.2.category == 2))) = lv') (k : Go Γ b (σ) (cells) (slots) (pc + 1) (lv') (st) (μ)) : Go Γ b (σ) (cells) (slots) (pc) (lv) (.long x :: st) (μ) := by
  obtain ⟨p, l, e, R, s, m, args, below, meth, c, G, n9, Q⟩ := Γ
  obtain ⟨hx, hb, hml, hn9, hown, hts, hK, hr, hE, hbs, hrm⟩ := X
  subst hn9
  intro H locs ls h1 h2 h3 h4
  exact lv_lstore_n hx hb d hi h4 hn hl (fun ls h4 => k H locs ls h1 h2 h3 h4)
theorem g_lstore (X : Cx Γ b cc nL own ret rm) {i : Nat} {x : Int64} (d : decode cc pc = .ok (.lstore i, 2)) (hn : i + 1 < nL) (hl : (i, Value.long x) :: lv.filter (fun q => !(q.1 == i) && (!(q.1 == i + 1) && !(q.1 + 1 == i && q.2.category == 2))) = lv') (k : Go Γ b (σ) (cells) (slots) (pc + 2) (lv') (st) (μ)) : Go Γ b (σ) (cells) (slots) (pc) (lv) (.long x :: st) (μ) := by
  obtain ⟨p, l, e, R, s, m, args, below, meth, c, G, n9, Q⟩ := Γ
  obtain ⟨hx, hb, hml, hn9, hown, hts, hK, hr, hE, hbs, hrm⟩ := X
  subst hn9
  intro H locs ls h1 h2 h3 h4
  exact lv_lstore hx hb d h4 hn hl (fun ls h4 => k H locs ls h1 h2 h3 h4)
theorem g_aload_n (X : Cx Γ b cc nL own ret rm) {k9 : _} {i : Nat} {x : Nat} (j : Nat) (d : decode cc pc = .ok (.aload_n k9, 1)) (hi : (k9 : Nat) = i) (hj : lv[j]? = some (i, .ref x)) (k : Go Γ b (σ) (cells) (slots) (pc + 1) (lv) (.ref x :: st) (μ)) : Go Γ b (σ) (cells) (slots) (pc) (lv) (st) (μ) := by
  obtain ⟨p, l, e, R, s, m, args, below, meth, c, G, n9, Q⟩ := Γ
  obtain ⟨hx, hb, hml, hn9, hown, hts, hK, hr, hE, hbs, hrm⟩ := X
  subst hn9
  intro H locs ls h1 h2 h3 h4
  exact lv_aload_n hx hb d hi (lv_at h4 j hj) (k H locs ls h1 h2 h3 h4)
theorem g_aload (X : Cx Γ b cc nL own ret rm) {i : Nat} {x : Nat} (j : Nat) (d : decode cc pc = .ok (.aload i, 2)) (hj : lv[j]? = some (i, .ref x)) (k : Go Γ b (σ) (cells) (slots) (pc + 2) (lv) (.ref x :: st) (μ)) : Go Γ b (σ) (cells) (slots) (pc) (lv) (st) (μ) := by
  obtain ⟨p, l, e, R, s, m, args, below, meth, c, G, n9, Q⟩ := Γ
  obtain ⟨hx, hb, hml, hn9, hown, hts, hK, hr, hE, hbs, hrm⟩ := X
  subst hn9
  intro H locs ls h1 h2 h3 h4
  exact lv_aload hx hb d (lv_at h4 j hj) (k H locs ls h1 h2 h3 h4)
theorem g_astore_n (X : Cx Γ b cc nL own ret rm) {k9 : _} {i : Nat} {x : Nat} (d : decode cc pc = .ok (.astore_n k9, 1)) (hi : (k9 : Nat) = i) (hn : i < nL) (hl : (i, Value.ref x) :: lv.filter (fun q => !(q.1 == i) && !(q.1 + 1 == i && q.2.category == 2)) = lv') (k : Go Γ b (σ) (cells) (slots) (pc + 1) (lv') (st) (μ)) : Go Γ b (σ) (cells) (slots) (pc) (lv) (.ref x :: st) (μ) := by
  obtain ⟨p, l, e, R, s, m, args, below, meth, c, G, n9, Q⟩ := Γ
  obtain ⟨hx, hb, hml, hn9, hown, hts, hK, hr, hE, hbs, hrm⟩ := X
  subst hn9
  intro H locs ls h1 h2 h3 h4
  exact lv_astore_n hx hb d hi h4 hn hl (fun ls h4 => k H locs ls h1 h2 h3 h4)
theorem g_astore (X : Cx Γ b cc nL own ret rm) {i : Nat} {x : Nat} (d : decode cc pc = .ok (.astore i, 2)) (hn : i < nL) (hl : (i, Value.ref x) :: lv.filter (fun q => !(q.1 == i) && !(q.1 + 1 == i && q.2.category == 2)) = lv') (k : Go Γ b (σ) (cells) (slots) (pc + 2) (lv') (st) (μ)) : Go Γ b (σ) (cells) (slots) (pc) (lv) (.ref x :: st) (μ) := by
  obtain ⟨p, l, e, R, s, m, args, below, meth, c, G, n9, Q⟩ := Γ
  obtain ⟨hx, hb, hml, hn9, hown, hts, hK, hr, hE, hbs, hrm⟩ := X
  subst hn9
  intro H locs ls h1 h2 h3 h4
  exact lv_astore hx hb d h4 hn hl (fun ls h4 => k H locs ls h1 h2 h3 h4)
theorem g_iinc (X : Cx Γ b cc nL own ret rm) {i : Nat} {n : _} {x v : Int32} (j : Nat) (d : decode cc pc = .ok (.iinc i n, 3)) (hj : lv[j]? = some (i, .int x)) (hv : x + Int32.ofInt n = v) (hn : i < nL) (hl : (i, Value.int v) :: lv.filter (fun q => !(q.1 == i) && !(q.1 + 1 == i && q.2.category == 2)) = lv') (k : Go Γ b (σ) (cells) (slots) (pc + 3) (lv') (st) (μ)) : Go Γ b (σ) (cells) (slots) (pc) (lv) (st) (μ) := by
  obtain ⟨p, l, e, R, s, m, args, below, meth, c, G, n9, Q⟩ := Γ
  obtain ⟨hx, hb, hml, hn9, hown, hts, hK, hr, hE, hbs, hrm⟩ := X
  subst hn9
  intro H locs ls h1 h2 h3 h4
  exact lv_iinc hx hb d h4 (k := j) hj hv hn hl (fun ls h4 => k H locs ls h1 h2 h3 h4)
theorem g_iadd (X : Cx Γ b cc nL own ret rm) {x y : Int32} (d : decode cc pc = .ok (.iadd, 1))  (k : Go Γ b (σ) (cells) (slots) (pc + 1) (lv) (.int (x + y) :: st) (μ)) : Go Γ b (σ) (cells) (slots) (pc) (lv) (.int y :: .int x :: st) (μ) := by
  obtain ⟨p, l, e, R, s, m, args, below, meth, c, G, n9, Q⟩ := Γ
  obtain ⟨hx, hb, hml, hn9, hown, hts, hK, hr, hE, hbs, hrm⟩ := X
  subst hn9
  intro H locs ls h1 h2 h3 h4
  exact lv_iadd hx hb d (k H locs ls h1 h2 h3 h4)
theorem g_isub (X : Cx Γ b cc nL own ret rm) {x y : Int32} (d : decode cc pc = .ok (.isub, 1))  (k : Go Γ b (σ) (cells) (slots) (pc + 1) (lv) (.int (x - y) :: st) (μ)) : Go Γ b (σ) (cells) (slots) (pc) (lv) (.int y :: .int x :: st) (μ) := by
  obtain ⟨p, l, e, R, s, m, args, below, meth, c, G, n9, Q⟩ := Γ
  obtain ⟨hx, hb, hml, hn9, hown, hts, hK, hr, hE, hbs, hrm⟩ := X
  subst hn9
  intro H locs ls h1 h2 h3 h4
  exact lv_isub hx hb d (k H locs ls h1 h2 h3 h4)
theorem g_imul (X : Cx Γ b cc nL own ret rm) {x y : Int32} (d : decode cc pc = .ok (.imul, 1))  (k : Go Γ b (σ) (cells) (slots) (pc + 1) (lv) (.int (x * y) :: st) (μ)) : Go Γ b (σ) (cells) (slots) (pc) (lv) (.int y :: .int x :: st) (μ) := by
  obtain ⟨p, l, e, R, s, m, args, below, meth, c, G, n9, Q⟩ := Γ
  obtain ⟨hx, hb, hml, hn9, hown, hts, hK, hr, hE, hbs, hrm⟩ := X
  subst hn9
  intro H locs ls h1 h2 h3 h4
  exact lv_imul hx hb d (k H locs ls h1 h2 h3 h4)
theorem g_iand (X : Cx Γ b cc nL own ret rm) {x y : Int32} (d : decode cc pc = .ok (.iand, 1))  (k : Go Γ b (σ) (cells) (slots) (pc + 1) (lv) (.int (x &&& y) :: st) (μ)) : Go Γ b (σ) (cells) (slots) (pc) (lv) (.int y :: .int x :: st) (μ) := by
  obtain ⟨p, l, e, R, s, m, args, below, meth, c, G, n9, Q⟩ := Γ
  obtain ⟨hx, hb, hml, hn9, hown, hts, hK, hr, hE, hbs, hrm⟩ := X
  subst hn9
  intro H locs ls h1 h2 h3 h4
  exact lv_iand hx hb d (k H locs ls h1 h2 h3 h4)
theorem g_ior (X : Cx Γ b cc nL own ret rm) {x y : Int32} (d : decode cc pc = .ok (.ior, 1))  (k : Go Γ b (σ) (cells) (slots) (pc + 1) (lv) (.int (x ||| y) :: st) (μ)) : Go Γ b (σ) (cells) (slots) (pc) (lv) (.int y :: .int x :: st) (μ) := by
  obtain ⟨p, l, e, R, s, m, args, below, meth, c, G, n9, Q⟩ := Γ
  obtain ⟨hx, hb, hml, hn9, hown, hts, hK, hr, hE, hbs, hrm⟩ := X
  subst hn9
  intro H locs ls h1 h2 h3 h4
  exact lv_ior hx hb d (k H locs ls h1 h2 h3 h4)
theorem g_ixor (X : Cx Γ b cc nL own ret rm) {x y : Int32} (d : decode cc pc = .ok (.ixor, 1))  (k : Go Γ b (σ) (cells) (slots) (pc + 1) (lv) (.int (x ^^^ y) :: st) (μ)) : Go Γ b (σ) (cells) (slots) (pc) (lv) (.int y :: .int x :: st) (μ) := by
  obtain ⟨p, l, e, R, s, m, args, below, meth, c, G, n9, Q⟩ := Γ
  obtain ⟨hx, hb, hml, hn9, hown, hts, hK, hr, hE, hbs, hrm⟩ := X
  subst hn9
  intro H locs ls h1 h2 h3 h4
  exact lv_ixor hx hb d (k H locs ls h1 h2 h3 h4)
theorem g_ishl (X : Cx Γ b cc nL own ret rm) {x y : Int32} (d : decode cc pc = .ok (.ishl, 1))  (k : Go Γ b (σ) (cells) (slots) (pc + 1) (lv) (.int (x <<< (y &&& 31)) :: st) (μ)) : Go Γ b (σ) (cells) (slots) (pc) (lv) (.int y :: .int x :: st) (μ) := by
  obtain ⟨p, l, e, R, s, m, args, below, meth, c, G, n9, Q⟩ := Γ
  obtain ⟨hx, hb, hml, hn9, hown, hts, hK, hr, hE, hbs, hrm⟩ := X
  subst hn9
  intro H locs ls h1 h2 h3 h4
  exact lv_ishl hx hb d (k H locs ls h1 h2 h3 h4)
theorem g_ishr (X : Cx Γ b cc nL own ret rm) {x y : Int32} (d : decode cc pc = .ok (.ishr, 1))  (k : Go Γ b (σ) (cells) (slots) (pc + 1) (lv) (.int (x >>> (y &&& 31)) :: st) (μ)) : Go Γ b (σ) (cells) (slots) (pc) (lv) (.int y :: .int x :: st) (μ) := by
  obtain ⟨p, l, e, R, s, m, args, below, meth, c, G, n9, Q⟩ := Γ
  obtain ⟨hx, hb, hml, hn9, hown, hts, hK, hr, hE, hbs, hrm⟩ := X
  subst hn9
  intro H locs ls h1 h2 h3 h4
  exact lv_ishr hx hb d (k H locs ls h1 h2 h3 h4)
theorem g_idiv (X : Cx Γ b cc nL own ret rm) {x y : Int32} (d : decode cc pc = .ok (.idiv, 1)) (hne : ¬ y = 0) (k : Go Γ b (σ) (cells) (slots) (pc + 1) (lv) (.int (x / y) :: st) (μ)) : Go Γ b (σ) (cells) (slots) (pc) (lv) (.int y :: .int x :: st) (μ) := by
  obtain ⟨p, l, e, R, s, m, args, below, meth, c, G, n9, Q⟩ := Γ
  obtain ⟨hx, hb, hml, hn9, hown, hts, hK, hr, hE, hbs, hrm⟩ := X
  subst hn9
  intro H locs ls h1 h2 h3 h4
  exact lv_idiv hx hb d hne (k H locs ls h1 h2 h3 h4)
theorem g_irem (X : Cx Γ b cc nL own ret rm) {x y : Int32} (d : decode cc pc = .ok (.irem, 1)) (hne : ¬ y = 0) (k : Go Γ b (σ) (cells) (slots) (pc + 1) (lv) (.int (x - x / y * y) :: st) (μ)) : Go Γ b (σ) (cells) (slots) (pc) (lv) (.int y :: .int x :: st) (μ) := by
  obtain ⟨p, l, e, R, s, m, args, below, meth, c, G, n9, Q⟩ := Γ
  obtain ⟨hx, hb, hml, hn9, hown, hts, hK, hr, hE, hbs, hrm⟩ := X
  subst hn9
  intro H locs ls h1 h2 h3 h4
  exact lv_irem hx hb d hne (k H locs ls h1 h2 h3 h4)
theorem g_ineg (X : Cx Γ b cc nL own ret rm) {x : Int32} (d : decode cc pc = .ok (.ineg, 1))  (k : Go Γ b (σ) (cells) (slots) (pc + 1) (lv) (.int (-x) :: st) (μ)) : Go Γ b (σ) (cells) (slots) (pc) (lv) (.int x :: st) (μ) := by
  obtain ⟨p, l, e, R, s, m, args, below, meth, c, G, n9, Q⟩ := Γ
  obtain ⟨hx, hb, hml, hn9, hown, hts, hK, hr, hE, hbs, hrm⟩ := X
  subst hn9
  intro H locs ls h1 h2 h3 h4
  exact lv_ineg hx hb d (k H locs ls h1 h2 h3 h4)
theorem g_ladd (X : Cx Γ b cc nL own ret rm) {x y : Int64} (d : decode cc pc = .ok (.ladd, 1))  (k : Go Γ b (σ) (cells) (slots) (pc + 1) (lv) (.long (x + y) :: st) (μ)) : Go Γ b (σ) (cells) (slots) (pc) (lv) (.long y :: .long x :: st) (μ) := by
  obtain ⟨p, l, e, R, s, m, args, below, meth, c, G, n9, Q⟩ := Γ
  obtain ⟨hx, hb, hml, hn9, hown, hts, hK, hr, hE, hbs, hrm⟩ := X
  subst hn9
  intro H locs ls h1 h2 h3 h4
  exact lv_ladd hx hb d (k H locs ls h1 h2 h3 h4)
theorem g_lsub (X : Cx Γ b cc nL own ret rm) {x y : Int64} (d : decode cc pc = .ok (.lsub, 1))  (k : Go Γ b (σ) (cells) (slots) (pc + 1) (lv) (.long (x - y) :: st) (μ)) : Go Γ b (σ) (cells) (slots) (pc) (lv) (.long y :: .long x :: st) (μ) := by
  obtain ⟨p, l, e, R, s, m, args, below, meth, c, G, n9, Q⟩ := Γ
  obtain ⟨hx, hb, hml, hn9, hown, hts, hK, hr, hE, hbs, hrm⟩ := X
  subst hn9
  intro H locs ls h1 h2 h3 h4
  exact lv_lsub hx hb d (k H locs ls h1 h2 h3 h4)
theorem g_lmul (X : Cx Γ b cc nL own ret rm) {x y : Int64} (d : decode cc pc = .ok (.lmul, 1))  (k : Go Γ b (σ) (cells) (slots) (pc + 1) (lv) (.long (x * y) :: st) (μ)) : Go Γ b (σ) (cells) (slots) (pc) (lv) (.long y :: .long x :: st) (μ) := by
  obtain ⟨p, l, e, R, s, m, args, below, meth, c, G, n9, Q⟩ := Γ
  obtain ⟨hx, hb, hml, hn9, hown, hts, hK, hr, hE, hbs, hrm⟩ := X
  subst hn9
  intro H locs ls h1 h2 h3 h4
  exact lv_lmul hx hb d (k H locs ls h1 h2 h3 h4)
theorem g_land (X : Cx Γ b cc nL own ret rm) {x y : Int64} (d : decode cc pc = .ok (.land, 1))  (k : Go Γ b (σ) (cells) (slots) (pc + 1) (lv) (.long (x &&& y) :: st) (μ)) : Go Γ b (σ) (cells) (slots) (pc) (lv) (.long y :: .long x :: st) (μ) := by
  obtain ⟨p, l, e, R, s, m, args, below, meth, c, G, n9, Q⟩ := Γ
  obtain ⟨hx, hb, hml, hn9, hown, hts, hK, hr, hE, hbs, hrm⟩ := X
  subst hn9
  intro H locs ls h1 h2 h3 h4
  exact lv_land hx hb d (k H locs ls h1 h2 h3 h4)
theorem g_lor (X : Cx Γ b cc nL own ret rm) {x y : Int64} (d : decode cc pc = .ok (.lor, 1))  (k : Go Γ b (σ) (cells) (slots) (pc + 1) (lv) (.long (x ||| y) :: st) (μ)) : Go Γ b (σ) (cells) (slots) (pc) (lv) (.long y :: .long x :: st) (μ) := by
  obtain ⟨p, l, e, R, s, m, args, below, meth, c, G, n9, Q⟩ := Γ
  obtain ⟨hx, hb, hml, hn9, hown, hts, hK, hr, hE, hbs, hrm⟩ := X
  subst hn9
  intro H locs ls h1 h2 h3 h4
  exact lv_lor hx hb d (k H locs ls h1 h2 h3 h4)
theorem g_lxor (X : Cx Γ b cc nL own ret rm) {x y : Int64} (d : decode cc pc = .ok (.lxor, 1))  (k : Go Γ b (σ) (cells) (slots) (pc + 1) (lv) (.long (x ^^^ y) :: st) (μ)) : Go Γ b (σ) (cells) (slots) (pc) (lv) (.long y :: .long x :: st) (μ) := by
  obtain ⟨p, l, e, R, s, m, args, below, meth, c, G, n9, Q⟩ := Γ
  obtain ⟨hx, hb, hml, hn9, hown, hts, hK, hr, hE, hbs, hrm⟩ := X
  subst hn9
  intro H locs ls h1 h2 h3 h4
  exact lv_lxor hx hb d (k H locs ls h1 h2 h3 h4)
theorem g_ldiv (X : Cx Γ b cc nL own ret rm) {x y : Int64} (d : decode cc pc = .ok (.ldiv, 1)) (hne : ¬ y = 0) (k : Go Γ b (σ) (cells) (slots) (pc + 1) (lv) (.long (x / y) :: st) (μ)) : Go Γ b (σ) (cells) (slots) (pc) (lv) (.long y :: .long x :: st) (μ) := by
  obtain ⟨p, l, e, R, s, m, args, below, meth, c, G, n9, Q⟩ := Γ
  obtain ⟨hx, hb, hml, hn9, hown, hts, hK, hr, hE, hbs, hrm⟩ := X
  subst hn9
  intro H locs ls h1 h2 h3 h4
  exact lv_ldiv hx hb d hne (k H locs ls h1 h2 h3 h4)
theorem g_lrem (X : Cx Γ b cc nL own ret rm) {x y : Int64} (d : decode cc pc = .ok (.lrem, 1)) (hne : ¬ y = 0) (k : Go Γ b (σ) (cells) (slots) (pc + 1) (lv) (.long (x - x / y * y) :: st) (μ)) : Go Γ b (σ) (cells) (slots) (pc) (lv) (.long y :: .long x :: st) (μ) := by
  obtain ⟨p, l, e, R, s, m, args, below, meth, c, G, n9, Q⟩ := Γ
  obtain ⟨hx, hb, hml, hn9, hown, hts, hK, hr, hE, hbs, hrm⟩ := X
  subst hn9
  intro H locs ls h1 h2 h3 h4
  exact lv_lrem hx hb d hne (k H locs ls h1 h2 h3 h4)
theorem g_iushr (X : Cx Γ b cc nL own ret rm) {x y : Int32} (d : decode cc pc = .ok (.iushr, 1))  (k : Go Γ b (σ) (cells) (slots) (pc + 1) (lv) (.int ((x.toUInt32 >>> (y.toUInt32 &&& Int32.toUInt32 31)).toInt32) :: st) (μ)) : Go Γ b (σ) (cells) (slots) (pc) (lv) (.int y :: .int x :: st) (μ) := by
  obtain ⟨p, l, e, R, s, m, args, below, meth, c, G, n9, Q⟩ := Γ
  obtain ⟨hx, hb, hml, hn9, hown, hts, hK, hr, hE, hbs, hrm⟩ := X
  subst hn9
  intro H locs ls h1 h2 h3 h4
  exact lv_iushr hx hb d rfl (k H locs ls h1 h2 h3 h4)
theorem g_i2l (X : Cx Γ b cc nL own ret rm) {x : Int32} (d : decode cc pc = .ok (.i2l, 1))  (k : Go Γ b (σ) (cells) (slots) (pc + 1) (lv) (.long x.toInt64 :: st) (μ)) : Go Γ b (σ) (cells) (slots) (pc) (lv) (.int x :: st) (μ) := by
  obtain ⟨p, l, e, R, s, m, args, below, meth, c, G, n9, Q⟩ := Γ
  obtain ⟨hx, hb, hml, hn9, hown, hts, hK, hr, hE, hbs, hrm⟩ := X
  subst hn9
  intro H locs ls h1 h2 h3 h4
  exact lv_i2l hx hb d rfl (k H locs ls h1 h2 h3 h4)
theorem g_l2i (X : Cx Γ b cc nL own ret rm) {x : Int64} (d : decode cc pc = .ok (.l2i, 1))  (k : Go Γ b (σ) (cells) (slots) (pc + 1) (lv) (.int x.toInt32 :: st) (μ)) : Go Γ b (σ) (cells) (slots) (pc) (lv) (.long x :: st) (μ) := by
  obtain ⟨p, l, e, R, s, m, args, below, meth, c, G, n9, Q⟩ := Γ
  obtain ⟨hx, hb, hml, hn9, hown, hts, hK, hr, hE, hbs, hrm⟩ := X
  subst hn9
  intro H locs ls h1 h2 h3 h4
  exact lv_l2i hx hb d rfl (k H locs ls h1 h2 h3 h4)
theorem g_i2b (X : Cx Γ b cc nL own ret rm) {x : Int32} (d : decode cc pc = .ok (.i2b, 1))  (k : Go Γ b (σ) (cells) (slots) (pc + 1) (lv) (.int x.toInt8.toInt32 :: st) (μ)) : Go Γ b (σ) (cells) (slots) (pc) (lv) (.int x :: st) (μ) := by
  obtain ⟨p, l, e, R, s, m, args, below, meth, c, G, n9, Q⟩ := Γ
  obtain ⟨hx, hb, hml, hn9, hown, hts, hK, hr, hE, hbs, hrm⟩ := X
  subst hn9
  intro H locs ls h1 h2 h3 h4
  exact lv_i2b hx hb d rfl (k H locs ls h1 h2 h3 h4)
theorem g_i2s (X : Cx Γ b cc nL own ret rm) {x : Int32} (d : decode cc pc = .ok (.i2s, 1))  (k : Go Γ b (σ) (cells) (slots) (pc + 1) (lv) (.int x.toInt16.toInt32 :: st) (μ)) : Go Γ b (σ) (cells) (slots) (pc) (lv) (.int x :: st) (μ) := by
  obtain ⟨p, l, e, R, s, m, args, below, meth, c, G, n9, Q⟩ := Γ
  obtain ⟨hx, hb, hml, hn9, hown, hts, hK, hr, hE, hbs, hrm⟩ := X
  subst hn9
  intro H locs ls h1 h2 h3 h4
  exact lv_i2s hx hb d rfl (k H locs ls h1 h2 h3 h4)
theorem g_i2c (X : Cx Γ b cc nL own ret rm) {x : Int32} (d : decode cc pc = .ok (.i2c, 1))  (k : Go Γ b (σ) (cells) (slots) (pc + 1) (lv) (.int (x.toUInt32 % 65536).toInt32 :: st) (μ)) : Go Γ b (σ) (cells) (slots) (pc) (lv) (.int x :: st) (μ) := by
  obtain ⟨p, l, e, R, s, m, args, below, meth, c, G, n9, Q⟩ := Γ
  obtain ⟨hx, hb, hml, hn9, hown, hts, hK, hr, hE, hbs, hrm⟩ := X
  subst hn9
  intro H locs ls h1 h2 h3 h4
  exact lv_i2c hx hb d rfl (k H locs ls h1 h2 h3 h4)
theorem g_lcmp (X : Cx Γ b cc nL own ret rm) {x y : Int64} (d : decode cc pc = .ok (.lcmp, 1))  (k : Go Γ b (σ) (cells) (slots) (pc + 1) (lv) (.int (lg_cmp x y) :: st) (μ)) : Go Γ b (σ) (cells) (slots) (pc) (lv) (.long y :: .long x :: st) (μ) := by
  obtain ⟨p, l, e, R, s, m, args, below, meth, c, G, n9, Q⟩ := Γ
  obtain ⟨hx, hb, hml, hn9, hown, hts, hK, hr, hE, hbs, hrm⟩ := X
  subst hn9
  intro H locs ls h1 h2 h3 h4
  exact W.lcmp hx hb d (k H locs ls h1 h2 h3 h4)
theorem g_dup (X : Cx Γ b cc nL own ret rm) {va : Value} (d : decode cc pc = .ok (.dup, 1)) (hva : va.category = 1) (k : Go Γ b (σ) (cells) (slots) (pc + 1) (lv) (va :: va :: st) (μ)) : Go Γ b (σ) (cells) (slots) (pc) (lv) (va :: st) (μ) := by
  obtain ⟨p, l, e, R, s, m, args, below, meth, c, G, n9, Q⟩ := Γ
  obtain ⟨hx, hb, hml, hn9, hown, hts, hK, hr, hE, hbs, hrm⟩ := X
  subst hn9
  intro H locs ls h1 h2 h3 h4
  exact lv_dup hx hb d hva (k H locs ls h1 h2 h3 h4)
theorem g_pop (X : Cx Γ b cc nL own ret rm) {va : Value} (d : decode cc pc = .ok (.pop, 1)) (hva : va.category = 1) (k : Go Γ b (σ) (cells) (slots) (pc + 1) (lv) (st) (μ)) : Go Γ b (σ) (cells) (slots) (pc) (lv) (va :: st) (μ) := by
  obtain ⟨p, l, e, R, s, m, args, below, meth, c, G, n9, Q⟩ := Γ
  obtain ⟨hx, hb, hml, hn9, hown, hts, hK, hr, hE, hbs, hrm⟩ := X
  subst hn9
  intro H locs ls h1 h2 h3 h4
  exact lv_pop hx hb d hva (k H locs ls h1 h2 h3 h4)
theorem g_dup_x1 (X : Cx Γ b cc nL own ret rm) {va vb : Value} (d : decode cc pc = .ok (.dup_x1, 1)) (hva : va.category = 1) (hvb : vb.category = 1) (k : Go Γ b (σ) (cells) (slots) (pc + 1) (lv) (va :: vb :: va :: st) (μ)) : Go Γ b (σ) (cells) (slots) (pc) (lv) (va :: vb :: st) (μ) := by
  obtain ⟨p, l, e, R, s, m, args, below, meth, c, G, n9, Q⟩ := Γ
  obtain ⟨hx, hb, hml, hn9, hown, hts, hK, hr, hE, hbs, hrm⟩ := X
  subst hn9
  intro H locs ls h1 h2 h3 h4
  exact lv_dup_x1 hx hb d hva hvb (k H locs ls h1 h2 h3 h4)
theorem g_dup2 (X : Cx Γ b cc nL own ret rm) {va vb : Value} (d : decode cc pc = .ok (.dup2, 1)) (hva : va.category = 1) (hvb : vb.category = 1) (k : Go Γ b (σ) (cells) (slots) (pc + 1) (lv) (va :: vb :: va :: vb :: st) (μ)) : Go Γ b (σ) (cells) (slots) (pc) (lv) (va :: vb :: st) (μ) := by
  obtain ⟨p, l, e, R, s, m, args, below, meth, c, G, n9, Q⟩ := Γ
  obtain ⟨hx, hb, hml, hn9, hown, hts, hK, hr, hE, hbs, hrm⟩ := X
  subst hn9
  intro H locs ls h1 h2 h3 h4
  exact lv_dup2_11 hx hb d hva hvb (k H locs ls h1 h2 h3 h4)
theorem g_if_eq (X : Cx Γ b cc nL own ret rm) {x : Int32} {off : Int} {tgt : Nat} (d : decode cc pc = .ok (.ifCond .eq off, 3)) (ht : (pc : Int) + off = (tgt : Int)) (kt : x = 0 → Go Γ b (σ) (cells) (slots) (tgt) (lv) (st) (μ)) (kf : ¬ x = 0 → Go Γ b (σ) (cells) (slots) (pc + 3) (lv) (st) (μ)) : Go Γ b (σ) (cells) (slots) (pc) (lv) (.int x :: st) (μ) := by
  obtain ⟨p, l, e, R, s, m, args, below, meth, c, G, n9, Q⟩ := Γ
  obtain ⟨hx, hb, hml, hn9, hown, hts, hK, hr, hE, hbs, hrm⟩ := X
  subst hn9
  intro H locs ls h1 h2 h3 h4
  exact lv_if_eq hx hb d ht (fun c9 => kt c9 H locs ls h1 h2 h3 h4) (fun c9 => kf c9 H locs ls h1 h2 h3 h4)
theorem g_icmp_eq (X : Cx Γ b cc nL own ret rm) {x y : Int32} {off : Int} {tgt : Nat} (d : decode cc pc = .ok (.if_icmp .eq off, 3)) (ht : (pc : Int) + off = (tgt : Int)) (kt : x = y → Go Γ b (σ) (cells) (slots) (tgt) (lv) (st) (μ)) (kf : ¬ x = y → Go Γ b (σ) (cells) (slots) (pc + 3) (lv) (st) (μ)) : Go Γ b (σ) (cells) (slots) (pc) (lv) (.int y :: .int x :: st) (μ) := by
  obtain ⟨p, l, e, R, s, m, args, below, meth, c, G, n9, Q⟩ := Γ
  obtain ⟨hx, hb, hml, hn9, hown, hts, hK, hr, hE, hbs, hrm⟩ := X
  subst hn9
  intro H locs ls h1 h2 h3 h4
  exact lv_icmp_eq hx hb d ht (fun c9 => kt c9 H locs ls h1 h2 h3 h4) (fun c9 => kf c9 H locs ls h1 h2 h3 h4)
theorem g_if_ne (X : Cx Γ b cc nL own ret rm) {x : Int32} {off : Int} {tgt : Nat} (d : decode cc pc = .ok (.ifCond .ne off, 3)) (ht : (pc : Int) + off = (tgt : Int)) (kt : ¬ x = 0 → Go Γ b (σ) (cells) (slots) (tgt) (lv) (st) (μ)) (kf : x = 0 → Go Γ b (σ) (cells) (slots) (pc + 3) (lv) (st) (μ)) : Go Γ b (σ) (cells) (slots) (pc) (lv) (.int x :: st) (μ) := by
  obtain ⟨p, l, e, R, s, m, args, below, meth, c, G, n9, Q⟩ := Γ
  obtain ⟨hx, hb, hml, hn9, hown, hts, hK, hr, hE, hbs, hrm⟩ := X
  subst hn9
  intro H locs ls h1 h2 h3 h4
  exact lv_if_ne hx hb d ht (fun c9 => kt c9 H locs ls h1 h2 h3 h4) (fun c9 => kf c9 H locs ls h1 h2 h3 h4)
theorem g_icmp_ne (X : Cx Γ b cc nL own ret rm) {x y : Int32} {off : Int} {tgt : Nat} (d : decode cc pc = .ok (.if_icmp .ne off, 3)) (ht : (pc : Int) + off = (tgt : Int)) (kt : ¬ x = y → Go Γ b (σ) (cells) (slots) (tgt) (lv) (st) (μ)) (kf : x = y → Go Γ b (σ) (cells) (slots) (pc + 3) (lv) (st) (μ)) : Go Γ b (σ) (cells) (slots) (pc) (lv) (.int y :: .int x :: st) (μ) := by
  obtain ⟨p, l, e, R, s, m, args, below, meth, c, G, n9, Q⟩ := Γ
  obtain ⟨hx, hb, hml, hn9, hown, hts, hK, hr, hE, hbs, hrm⟩ := X
  subst hn9
  intro H locs ls h1 h2 h3 h4
  exact lv_icmp_ne hx hb d ht (fun c9 => kt c9 H locs ls h1 h2 h3 h4) (fun c9 => kf c9 H locs ls h1 h2 h3 h4)
theorem g_if_lt (X : Cx Γ b cc nL own ret rm) {x : Int32} {off : Int} {tgt : Nat} (d : decode cc pc = .ok (.ifCond .lt off, 3)) (ht : (pc : Int) + off = (tgt : Int)) (kt : x < 0 → Go Γ b (σ) (cells) (slots) (tgt) (lv) (st) (μ)) (kf : ¬ x < 0 → Go Γ b (σ) (cells) (slots) (pc + 3) (lv) (st) (μ)) : Go Γ b (σ) (cells) (slots) (pc) (lv) (.int x :: st) (μ) := by
  obtain ⟨p, l, e, R, s, m, args, below, meth, c, G, n9, Q⟩ := Γ
  obtain ⟨hx, hb, hml, hn9, hown, hts, hK, hr, hE, hbs, hrm⟩ := X
  subst hn9
  intro H locs ls h1 h2 h3 h4
  exact lv_if_lt hx hb d ht (fun c9 => kt c9 H locs ls h1 h2 h3 h4) (fun c9 => kf c9 H locs ls h1 h2 h3 h4)
theorem g_icmp_lt (X : Cx Γ b cc nL own ret rm) {x y : Int32} {off : Int} {tgt : Nat} (d : decode cc pc = .ok (.if_icmp .lt off, 3)) (ht : (pc : Int) + off = (tgt : Int)) (kt : x < y → Go Γ b (σ) (cells) (slots) (tgt) (lv) (st) (μ)) (kf : ¬ x < y → Go Γ b (σ) (cells) (slots) (pc + 3) (lv) (st) (μ)) : Go Γ b (σ) (cells) (slots) (pc) (lv) (.int y :: .int x :: st) (μ) := by
  obtain ⟨p, l, e, R, s, m, args, below, meth, c, G, n9, Q⟩ := Γ
  obtain ⟨hx, hb, hml, hn9, hown, hts, hK, hr, hE, hbs, hrm⟩ := X
  subst hn9
  intro H locs ls h1 h2 h3 h4
  exact lv_icmp_lt hx hb d ht (fun c9 => kt c9 H locs ls h1 h2 h3 h4) (fun c9 => kf c9 H locs ls h1 h2 h3 h4)
theorem g_if_ge (X : Cx Γ b cc nL own ret rm) {x : Int32} {off : Int} {tgt : Nat} (d : decode cc pc = .ok (.ifCond .ge off, 3)) (ht : (pc : Int) + off = (tgt : Int)) (kt : 0 ≤ x → Go Γ b (σ) (cells) (slots) (tgt) (lv) (st) (μ)) (kf : ¬ 0 ≤ x → Go Γ b (σ) (cells) (slots) (pc + 3) (lv) (st) (μ)) : Go Γ b (σ) (cells) (slots) (pc) (lv) (.int x :: st) (μ) := by
  obtain ⟨p, l, e, R, s, m, args, below, meth, c, G, n9, Q⟩ := Γ
  obtain ⟨hx, hb, hml, hn9, hown, hts, hK, hr, hE, hbs, hrm⟩ := X
  subst hn9
  intro H locs ls h1 h2 h3 h4
  exact lv_if_ge hx hb d ht (fun c9 => kt c9 H locs ls h1 h2 h3 h4) (fun c9 => kf c9 H locs ls h1 h2 h3 h4)
theorem g_icmp_ge (X : Cx Γ b cc nL own ret rm) {x y : Int32} {off : Int} {tgt : Nat} (d : decode cc pc = .ok (.if_icmp .ge off, 3)) (ht : (pc : Int) + off = (tgt : Int)) (kt : y ≤ x → Go Γ b (σ) (cells) (slots) (tgt) (lv) (st) (μ)) (kf : ¬ y ≤ x → Go Γ b (σ) (cells) (slots) (pc + 3) (lv) (st) (μ)) : Go Γ b (σ) (cells) (slots) (pc) (lv) (.int y :: .int x :: st) (μ) := by
  obtain ⟨p, l, e, R, s, m, args, below, meth, c, G, n9, Q⟩ := Γ
  obtain ⟨hx, hb, hml, hn9, hown, hts, hK, hr, hE, hbs, hrm⟩ := X
  subst hn9
  intro H locs ls h1 h2 h3 h4
  exact lv_icmp_ge hx hb d ht (fun c9 => kt c9 H locs ls h1 h2 h3 h4) (fun c9 => kf c9 H locs ls h1 h2 h3 h4)
theorem g_if_gt (X : Cx Γ b cc nL own ret rm) {x : Int32} {off : Int} {tgt : Nat} (d : decode cc pc = .ok (.ifCond .gt off, 3)) (ht : (pc : Int) + off = (tgt : Int)) (kt : 0 < x → Go Γ b (σ) (cells) (slots) (tgt) (lv) (st) (μ)) (kf : ¬ 0 < x → Go Γ b (σ) (cells) (slots) (pc + 3) (lv) (st) (μ)) : Go Γ b (σ) (cells) (slots) (pc) (lv) (.int x :: st) (μ) := by
  obtain ⟨p, l, e, R, s, m, args, below, meth, c, G, n9, Q⟩ := Γ
  obtain ⟨hx, hb, hml, hn9, hown, hts, hK, hr, hE, hbs, hrm⟩ := X
  subst hn9
  intro H locs ls h1 h2 h3 h4
  exact lv_if_gt hx hb d ht (fun c9 => kt c9 H locs ls h1 h2 h3 h4) (fun c9 => kf c9 H locs ls h1 h2 h3 h4)
theorem g_icmp_gt (X : Cx Γ b cc nL own ret rm) {x y : Int32} {off : Int} {tgt : Nat} (d : decode cc pc = .ok (.if_icmp .gt off, 3)) (ht : (pc : Int) + off = (tgt : Int)) (kt : y < x → Go Γ b (σ) (cells) (slots) (tgt) (lv) (st) (μ)) (kf : ¬ y < x → Go Γ b (σ) (cells) (slots) (pc + 3) (lv) (st) (μ)) : Go Γ b (σ) (cells) (slots) (pc) (lv) (.int y :: .int x :: st) (μ) := by
  obtain ⟨p, l, e, R, s, m, args, below, meth, c, G, n9, Q⟩ := Γ
  obtain ⟨hx, hb, hml, hn9, hown, hts, hK, hr, hE, hbs, hrm⟩ := X
  subst hn9
  intro H locs ls h1 h2 h3 h4
  exact lv_icmp_gt hx hb d ht (fun c9 => kt c9 H locs ls h1 h2 h3 h4) (fun c9 => kf c9 H locs ls h1 h2 h3 h4)
theorem g_if_le (X : Cx Γ b cc nL own ret rm) {x : Int32} {off : Int} {tgt : Nat} (d : decode cc pc = .ok (.ifCond .le off, 3)) (ht : (pc : Int) + off = (tgt : Int)) (kt : x ≤ 0 → Go Γ b (σ) (cells) (slots) (tgt) (lv) (st) (μ)) (kf : ¬ x ≤ 0 → Go Γ b (σ) (cells) (slots) (pc + 3) (lv) (st) (μ)) : Go Γ b (σ) (cells) (slots) (pc) (lv) (.int x :: st) (μ) := by
  obtain ⟨p, l, e, R, s, m, args, below, meth, c, G, n9, Q⟩ := Γ
  obtain ⟨hx, hb, hml, hn9, hown, hts, hK, hr, hE, hbs, hrm⟩ := X
  subst hn9
  intro H locs ls h1 h2 h3 h4
  exact lv_if_le hx hb d ht (fun c9 => kt c9 H locs ls h1 h2 h3 h4) (fun c9 => kf c9 H locs ls h1 h2 h3 h4)
theorem g_icmp_le (X : Cx Γ b cc nL own ret rm) {x y : Int32} {off : Int} {tgt : Nat} (d : decode cc pc = .ok (.if_icmp .le off, 3)) (ht : (pc : Int) + off = (tgt : Int)) (kt : x ≤ y → Go Γ b (σ) (cells) (slots) (tgt) (lv) (st) (μ)) (kf : ¬ x ≤ y → Go Γ b (σ) (cells) (slots) (pc + 3) (lv) (st) (μ)) : Go Γ b (σ) (cells) (slots) (pc) (lv) (.int y :: .int x :: st) (μ) := by
  obtain ⟨p, l, e, R, s, m, args, below, meth, c, G, n9, Q⟩ := Γ
  obtain ⟨hx, hb, hml, hn9, hown, hts, hK, hr, hE, hbs, hrm⟩ := X
  subst hn9
  intro H locs ls h1 h2 h3 h4
  exact lv_icmp_le hx hb d ht (fun c9 => kt c9 H locs ls h1 h2 h3 h4) (fun c9 => kf c9 H locs ls h1 h2 h3 h4)
theorem g_goto (X : Cx Γ b cc nL own ret rm) {off : Int} {tgt : Nat} (d : decode cc pc = .ok (.goto off, 3)) (ht : (pc : Int) + off = (tgt : Int)) (k : Go Γ b (σ) (cells) (slots) (tgt) (lv) (st) (μ)) : Go Γ b (σ) (cells) (slots) (pc) (lv) (st) (μ) := by
  obtain ⟨p, l, e, R, s, m, args, below, meth, c, G, n9, Q⟩ := Γ
  obtain ⟨hx, hb, hml, hn9, hown, hts, hK, hr, hE, hbs, hrm⟩ := X
  subst hn9
  intro H locs ls h1 h2 h3 h4
  exact lv_goto hx hb d ht (k H locs ls h1 h2 h3 h4)
theorem g_tblOut (X : Cx Γ b cc nL own ret rm) {x : Int32} {dflt lo hi : Int} {offs : _} {len tgt : Nat} (d : decode cc pc = .ok (.tableswitch dflt lo hi offs, len)) (h : x.toInt < lo ∨ hi < x.toInt) (ht : (pc : Int) + dflt = (tgt : Int)) (k : Go Γ b (σ) (cells) (slots) (tgt) (lv) (st) (μ)) : Go Γ b (σ) (cells) (slots) (pc) (lv) (.int x :: st) (μ) := by
  obtain ⟨p, l, e, R, s, m, args, below, meth, c, G, n9, Q⟩ := Γ
  obtain ⟨hx, hb, hml, hn9, hown, hts, hK, hr, hE, hbs, hrm⟩ := X
  subst hn9
  intro H locs ls h1 h2 h3 h4
  exact lv_tableOut hx hb d h ht (k H locs ls h1 h2 h3 h4)
theorem g_tblIn (X : Cx Γ b cc nL own ret rm) {x : Int32} {dflt lo hi off : Int} {offs : _} {len tgt : Nat} (d : decode cc pc = .ok (.tableswitch dflt lo hi offs, len)) (ha : ¬ x.toInt < lo) (hc : ¬ hi < x.toInt) (ho : offs[(x.toInt - lo).toNat]? = some off) (ht : (pc : Int) + off = (tgt : Int)) (k : Go Γ b (σ) (cells) (slots) (tgt) (lv) (st) (μ)) : Go Γ b (σ) (cells) (slots) (pc) (lv) (.int x :: st) (μ) := by
  obtain ⟨p, l, e, R, s, m, args, below, meth, c, G, n9, Q⟩ := Γ
  obtain ⟨hx, hb, hml, hn9, hown, hts, hK, hr, hE, hbs, hrm⟩ := X
  subst hn9
  intro H locs ls h1 h2 h3 h4
  exact lv_tableIn hx hb d ha hc ho ht (k H locs ls h1 h2 h3 h4)
theorem g_lookup (X : Cx Γ b cc nL own ret rm) {x : Int32} {dflt off : Int} {ps : _} {len tgt : Nat} (d : decode cc pc = .ok (.lookupswitch dflt ps, len)) (hp : (ps.toList.zip (ps.toList.drop 1)).all (fun (a, next) => a.1 < next.1) = true) (ho : Op.lookupswitch.offset ps.toList dflt x.toInt = off) (ht : (pc : Int) + off = (tgt : Int)) (k : Go Γ b (σ) (cells) (slots) (tgt) (lv) (st) (μ)) : Go Γ b (σ) (cells) (slots) (pc) (lv) (.int x :: st) (μ) := by
  obtain ⟨p, l, e, R, s, m, args, below, meth, c, G, n9, Q⟩ := Γ
  obtain ⟨hx, hb, hml, hn9, hown, hts, hK, hr, hE, hbs, hrm⟩ := X
  subst hn9
  intro H locs ls h1 h2 h3 h4
  exact lv_lookup hx hb d hp ho ht (k H locs ls h1 h2 h3 h4)
theorem g_getI (X : Cx Γ b cc nL own ret rm) {C : String} {TT : u_T} (a c0 k : Nat) {index : Nat} (d : decode cc pc = .ok (.getfield index, 3)) (ha : a < σ.2.1) (hka : kd a = c0) (hc9 : c0 < 10) (hc : vwCl[c0]? = some (C, TT, nf c0)) (hin : ∀ w ∈ u_ws C TT (nf c0), w ∈ WW) (hk : k < nf c0) (hft : ft c0 k = 0) (hw : Cond.fieldLink own index (TT k).1 (TT k).2.1 (TT k).2.2.1 ∈ WW) (k9 : Go Γ b (σ) (cells) (slots) (pc + 3) (lv) (.int (μ.1 a k) :: st) (μ)) : Go Γ b (σ) (cells) (slots) (pc) (lv) (.ref (σ.1 a) :: st) (μ) := by
  obtain ⟨p, l, e, R, s, m, args, below, meth, c, G, n9, Q⟩ := Γ
  obtain ⟨hx, hb, hml, hn9, hown, hts, hK, hr, hE, hbs, hrm⟩ := X
  subst hn9
  intro H locs ls h1 h2 h3 h4
  have hq : (wW G σ μ)[a]? = some (σ.1 a, .inr (c0, wfl σ μ c0 a)) := by rw [wW_get ha, wE_obj hka hc9]
  exact va_get hx hb hts hin hown hK h1 a hq hc k hk (hts _ hw) (fun x h9 => h9) (v := .int (μ.1 a k)) (by rw [wfl_get hk]; simp [fv, hft]) d (k9 H locs ls h1 h2 h3 h4)
theorem g_getJ (X : Cx Γ b cc nL own ret rm) {C : String} {TT : u_T} (a c0 k : Nat) {index : Nat} (d : decode cc pc = .ok (.getfield index, 3)) (ha : a < σ.2.1) (hka : kd a = c0) (hc9 : c0 < 10) (hc : vwCl[c0]? = some (C, TT, nf c0)) (hin : ∀ w ∈ u_ws C TT (nf c0), w ∈ WW) (hk : k < nf c0) (hft : ft c0 k = 1) (hw : Cond.fieldLink own index (TT k).1 (TT k).2.1 (TT k).2.2.1 ∈ WW) (k9 : Go Γ b (σ) (cells) (slots) (pc + 3) (lv) (.long (μ.2 a k) :: st) (μ)) : Go Γ b (σ) (cells) (slots) (pc) (lv) (.ref (σ.1 a) :: st) (μ) := by
  obtain ⟨p, l, e, R, s, m, args, below, meth, c, G, n9, Q⟩ := Γ
  obtain ⟨hx, hb, hml, hn9, hown, hts, hK, hr, hE, hbs, hrm⟩ := X
  subst hn9
  intro H locs ls h1 h2 h3 h4
  have hq : (wW G σ μ)[a]? = some (σ.1 a, .inr (c0, wfl σ μ c0 a)) := by rw [wW_get ha, wE_obj hka hc9]
  exact va_get hx hb hts hin hown hK h1 a hq hc k hk (hts _ hw) (fun x h9 => h9) (v := .long (μ.2 a k)) (by rw [wfl_get hk]; simp [fv, hft]) d (k9 H locs ls h1 h2 h3 h4)
theorem g_getR (X : Cx Γ b cc nL own ret rm) {C : String} {TT : u_T} (a c0 k : Nat) {index : Nat} (d : decode cc pc = .ok (.getfield index, 3)) (ha : a < σ.2.1) (hka : kd a = c0) (hc9 : c0 < 10) (hc : vwCl[c0]? = some (C, TT, nf c0)) (hin : ∀ w ∈ u_ws C TT (nf c0), w ∈ WW) (hk : k < nf c0) (hft : ft c0 k = 2) (hw : Cond.fieldLink own index (TT k).1 (TT k).2.1 (TT k).2.2.1 ∈ WW) (k9 : Go Γ b (σ) (cells) (slots) (pc + 3) (lv) (va_rf (σ.2.2.1 a k) :: st) (μ)) : Go Γ b (σ) (cells) (slots) (pc) (lv) (.ref (σ.1 a) :: st) (μ) := by
  obtain ⟨p, l, e, R, s, m, args, below, meth, c, G, n9, Q⟩ := Γ
  obtain ⟨hx, hb, hml, hn9, hown, hts, hK, hr, hE, hbs, hrm⟩ := X
  subst hn9
  intro H locs ls h1 h2 h3 h4
  have hq : (wW G σ μ)[a]? = some (σ.1 a, .inr (c0, wfl σ μ c0 a)) := by rw [wW_get ha, wE_obj hka hc9]
  exact va_get hx hb hts hin hown hK h1 a hq hc k hk (hts _ hw) (fun x h9 => h9) (v := va_rf (σ.2.2.1 a k)) (by rw [wfl_get hk]; simp [fv, hft]) d (k9 H locs ls h1 h2 h3 h4)
theorem g_putI (X : Cx Γ b cc nL own ret rm) {C : String} {TT : u_T} {tyf : Nat → FieldType} (a c0 k : Nat) {index : Nat} {v : Int32} (d : decode cc pc = .ok (.putfield index, 3)) (ha : a < σ.2.1) (hka : kd a = c0) (hc9 : c0 < 10) (hc : vwCl[c0]? = some (C, TT, nf c0)) (hin : ∀ w ∈ u_ws C TT (nf c0), w ∈ WW) (hk : k < nf c0) (hft : ft c0 k = 0) (hw : Cond.fieldLink own index (TT k).1 (TT k).2.1 (TT k).2.2.1 ∈ WW) (hty : ∀ k, k < nf c0 → parseFieldDescriptor (TT k).2.2.1 = some (tyf k)) (hnm : ∀ a, a < nf c0 → ∀ b, b < nf c0 → a ≠ b → (TT a).2.1 ≠ (TT b).2.1) (hfin : (TT k).2.2.2 = false) (hn9 : narrow (tyf k) (.int v) = .int v) (hf9 : fits (tyf k) (.int v) = true) (k9 : Go Γ b (σ) (cells) (slots) (pc + 3) (lv) (st) (pI μ a k v)) : Go Γ b (σ) (cells) (slots) (pc) (lv) (.int v :: .ref (σ.1 a) :: st) (μ) := by
  obtain ⟨p, l, e, R, s, m, args, below, meth, c, G, n9, Q⟩ := Γ
  obtain ⟨hx, hb, hml, hn9, hown, hts, hK, hr, hE, hbs, hrm⟩ := X
  subst hn9
  intro H locs ls h1 h2 h3 h4
  have hq : (wW G σ μ)[a]? = some (σ.1 a, .inr (c0, wfl σ μ c0 a)) := by rw [wW_get ha, wE_obj hka hc9]
  refine va_put hx hb hts hin tyf hty hnm hown hK h1 h2 h3 a hq hc k hk (hts _ hw) (fun x h9 => h9) hfin (hty k hk) hn9 hf9 (by rw [wfl_len]; exact hk) d (fun H1 locs1 e1 e2 e3 => ?_)
  have e0 := wW_set (G := G) (σ := σ) (τ := σ) (μ := μ) (ν := pI μ a k v) (a := a) rfl rfl (fun j hj => pI_o hj) (pI_f hka hc9 hft)
  rw [e0] at e1 e2
  exact k9 H1 locs1 ls e1 e2 e3 h4
theorem g_putIF (X : Cx Γ b cc nL own ret rm) {C : String} {TT : u_T} {tyf : Nat → FieldType} (a c0 k : Nat) {index : Nat} {v : Int32} (d : decode cc pc = .ok (.putfield index, 3)) (ha : a < σ.2.1) (hka : kd a = c0) (hc9 : c0 < 10) (hc : vwCl[c0]? = some (C, TT, nf c0)) (hin : ∀ w ∈ u_ws C TT (nf c0), w ∈ WW) (hk : k < nf c0) (hft : ft c0 k = 0) (hw : Cond.fieldLink own index (TT k).1 (TT k).2.1 (TT k).2.2.1 ∈ WW) (hty : ∀ k, k < nf c0 → parseFieldDescriptor (TT k).2.2.1 = some (tyf k)) (hnm : ∀ a, a < nf c0 → ∀ b, b < nf c0 → a ≠ b → (TT a).2.1 ≠ (TT b).2.1) (hfin : (TT k).2.2.2 = true) (hn9 : narrow (tyf k) (.int v) = .int v) (hf9 : fits (tyf k) (.int v) = true) (hi9 : Γ.2.2.2.2.2.2.2.2.1.name = "<init>") (hd9 : (TT k).1 = own) (k9 : Go Γ b (σ) (cells) (slots) (pc + 3) (lv) (st) (pI μ a k v)) : Go Γ b (σ) (cells) (slots) (pc) (lv) (.int v :: .ref (σ.1 a) :: st) (μ) := by
  obtain ⟨p, l, e, R, s, m, args, below, meth, c, G, n9, Q⟩ := Γ
  obtain ⟨hx, hb, hml, hn9, hown, hts, hK, hr, hE, hbs, hrm⟩ := X
  subst hn9
  intro H locs ls h1 h2 h3 h4
  have hq : (wW G σ μ)[a]? = some (σ.1 a, .inr (c0, wfl σ μ c0 a)) := by rw [wW_get ha, wE_obj hka hc9]
  refine va_putF hx hb hts hin tyf hty hnm hown hK h1 h2 h3 a hq hc k hk (hts _ hw) (fun x h9 => h9) hfin hi9 hd9 (hty k hk) hn9 hf9 (by rw [wfl_len]; exact hk) d (fun H1 locs1 e1 e2 e3 => ?_)
  have e0 := wW_set (G := G) (σ := σ) (τ := σ) (μ := μ) (ν := pI μ a k v) (a := a) rfl rfl (fun j hj => pI_o hj) (pI_f hka hc9 hft)
  rw [e0] at e1 e2
  exact k9 H1 locs1 ls e1 e2 e3 h4
theorem g_putJ (X : Cx Γ b cc nL own ret rm) {C : String} {TT : u_T} {tyf : Nat → FieldType} (a c0 k : Nat) {index : Nat} {v : Int64} (d : decode cc pc = .ok (.putfield index, 3)) (ha : a < σ.2.1) (hka : kd a = c0) (hc9 : c0 < 10) (hc : vwCl[c0]? = some (C, TT, nf c0)) (hin : ∀ w ∈ u_ws C TT (nf c0), w ∈ WW) (hk : k < nf c0) (hft : ft c0 k = 1) (hw : Cond.fieldLink own index (TT k).1 (TT k).2.1 (TT k).2.2.1 ∈ WW) (hty : ∀ k, k < nf c0 → parseFieldDescriptor (TT k).2.2.1 = some (tyf k)) (hnm : ∀ a, a < nf c0 → ∀ b, b < nf c0 → a ≠ b → (TT a).2.1 ≠ (TT b).2.1) (hfin : (TT k).2.2.2 = false) (hn9 : narrow (tyf k) (.long v) = .long v) (hf9 : fits (tyf k) (.long v) = true) (k9 : Go Γ b (σ) (cells) (slots) (pc + 3) (lv) (st) (pJ μ a k v)) : Go Γ b (σ) (cells) (slots) (pc) (lv) (.long v :: .ref (σ.1 a) :: st) (μ) := by
  obtain ⟨p, l, e, R, s, m, args, below, meth, c, G, n9, Q⟩ := Γ
  obtain ⟨hx, hb, hml, hn9, hown, hts, hK, hr, hE, hbs, hrm⟩ := X
  subst hn9
  intro H locs ls h1 h2 h3 h4
  have hq : (wW G σ μ)[a]? = some (σ.1 a, .inr (c0, wfl σ μ c0 a)) := by rw [wW_get ha, wE_obj hka hc9]
  refine va_put hx hb hts hin tyf hty hnm hown hK h1 h2 h3 a hq hc k hk (hts _ hw) (fun x h9 => h9) hfin (hty k hk) hn9 hf9 (by rw [wfl_len]; exact hk) d (fun H1 locs1 e1 e2 e3 => ?_)
  have e0 := wW_set (G := G) (σ := σ) (τ := σ) (μ := μ) (ν := pJ μ a k v) (a := a) rfl rfl (fun j hj => pJ_o hj) (pJ_f hka hc9 hft)
  rw [e0] at e1 e2
  exact k9 H1 locs1 ls e1 e2 e3 h4
theorem g_putRF (X : Cx Γ b cc nL own ret rm) {C : String} {TT : u_T} {tyf : Nat → FieldType} (a c0 k : Nat) {index : Nat} {v : Option Nat} (d : decode cc pc = .ok (.putfield index, 3)) (ha : a < σ.2.1) (hka : kd a = c0) (hc9 : c0 < 10) (hc : vwCl[c0]? = some (C, TT, nf c0)) (hin : ∀ w ∈ u_ws C TT (nf c0), w ∈ WW) (hk : k < nf c0) (hft : ft c0 k = 2) (hw : Cond.fieldLink own index (TT k).1 (TT k).2.1 (TT k).2.2.1 ∈ WW) (hty : ∀ k, k < nf c0 → parseFieldDescriptor (TT k).2.2.1 = some (tyf k)) (hnm : ∀ a, a < nf c0 → ∀ b, b < nf c0 → a ≠ b → (TT a).2.1 ≠ (TT b).2.1) (hfin : (TT k).2.2.2 = true) (hn9 : narrow (tyf k) (va_rf v) = va_rf v) (hf9 : fits (tyf k) (va_rf v) = true) (hi9 : Γ.2.2.2.2.2.2.2.2.1.name = "<init>") (hd9 : (TT k).1 = own) (k9 : Go Γ b (pR σ a k v) (cells) (slots) (pc + 3) (lv) (st) (μ)) : Go Γ b (σ) (cells) (slots) (pc) (lv) (va_rf v :: .ref (σ.1 a) :: st) (μ) := by
  obtain ⟨p, l, e, R, s, m, args, below, meth, c, G, n9, Q⟩ := Γ
  obtain ⟨hx, hb, hml, hn9, hown, hts, hK, hr, hE, hbs, hrm⟩ := X
  subst hn9
  intro H locs ls h1 h2 h3 h4
  have hq : (wW G σ μ)[a]? = some (σ.1 a, .inr (c0, wfl σ μ c0 a)) := by rw [wW_get ha, wE_obj hka hc9]
  refine va_putF hx hb hts hin tyf hty hnm hown hK h1 h2 h3 a hq hc k hk (hts _ hw) (fun x h9 => h9) hfin hi9 hd9 (hty k hk) hn9 hf9 (by rw [wfl_len]; exact hk) d (fun H1 locs1 e1 e2 e3 => ?_)
  have e0 := wW_set (G := G) (σ := σ) (τ := pR σ a k v) (μ := μ) (ν := μ) (a := a) rfl rfl (fun j hj => pR_o hj) (pR_f hka hc9 hft)
  rw [e0] at e1 e2
  exact k9 H1 locs1 ls e1 e2 e3 h4
theorem g_iald (X : Cx Γ b cc nL own ret rm) (a : Nat) {n : Nat} {i : Int32} (d : decode cc pc = .ok (.iaload, 1)) (ha : a < σ.2.1) (hka : kd a = 10) (hz : σ.2.2.2 a = n) (hin : vp_in i n) (k9 : Go Γ b (σ) (cells) (slots) (pc + 1) (lv) (.int (μ.1 a i.toNatClampNeg) :: st) (μ)) : Go Γ b (σ) (cells) (slots) (pc) (lv) (.int i :: .ref (σ.1 a) :: st) (μ) := by
  obtain ⟨p, l, e, R, s, m, args, below, meth, c, G, n9, Q⟩ := Γ
  obtain ⟨hx, hb, hml, hn9, hown, hts, hK, hr, hE, hbs, hrm⟩ := X
  subst hn9
  intro H locs ls h1 h2 h3 h4
  have hq : (wW G σ μ)[a]? = some (σ.1 a, .inl (G.2.1 10, σ.2.2.2 a, .inl (μ.1 a))) := by rw [wW_get ha, wE_int hka (by decide) (by decide)]
  subst hz
  exact va_iald hx hb hK h1 a 0 hq rfl hin d (k9 H locs ls h1 h2 h3 h4)
theorem g_zald (X : Cx Γ b cc nL own ret rm) (a : Nat) {n : Nat} {i : Int32} (d : decode cc pc = .ok (.baload, 1)) (ha : a < σ.2.1) (hka : kd a = 11) (hz : σ.2.2.2 a = n) (hin : vp_in i n) (k9 : Go Γ b (σ) (cells) (slots) (pc + 1) (lv) (.int (μ.1 a i.toNatClampNeg) :: st) (μ)) : Go Γ b (σ) (cells) (slots) (pc) (lv) (.int i :: .ref (σ.1 a) :: st) (μ) := by
  obtain ⟨p, l, e, R, s, m, args, below, meth, c, G, n9, Q⟩ := Γ
  obtain ⟨hx, hb, hml, hn9, hown, hts, hK, hr, hE, hbs, hrm⟩ := X
  subst hn9
  intro H locs ls h1 h2 h3 h4
  have hq : (wW G σ μ)[a]? = some (σ.1 a, .inl (G.2.1 11, σ.2.2.2 a, .inl (μ.1 a))) := by rw [wW_get ha, wE_int hka (by decide) (by decide)]
  subst hz
  exact va_zald hx hb hK h1 a 1 hq rfl hin d (k9 H locs ls h1 h2 h3 h4)
theorem g_iast (X : Cx Γ b cc nL own ret rm) (a : Nat) {n : Nat} {i x : Int32} (d : decode cc pc = .ok (.iastore, 1)) (ha : a < σ.2.1) (hka : kd a = 10) (hz : σ.2.2.2 a = n) (hin : vp_in i n) (k9 : Go Γ b (σ) (cells) (slots) (pc + 1) (lv) (st) (pI μ a i.toNatClampNeg x)) : Go Γ b (σ) (cells) (slots) (pc) (lv) (.int x :: .int i :: .ref (σ.1 a) :: st) (μ) := by
  obtain ⟨p, l, e, R, s, m, args, below, meth, c, G, n9, Q⟩ := Γ
  obtain ⟨hx, hb, hml, hn9, hown, hts, hK, hr, hE, hbs, hrm⟩ := X
  subst hn9
  intro H locs ls h1 h2 h3 h4
  have hq : (wW G σ μ)[a]? = some (σ.1 a, .inl (G.2.1 10, σ.2.2.2 a, .inl (μ.1 a))) := by rw [wW_get ha, wE_int hka (by decide) (by decide)]
  subst hz
  refine va_iast hx hb hK h1 h2 h3 a 0 hq rfl hin d (fun H1 locs1 e1 e2 e3 => ?_)
  have e0 := wW_set (G := G) (σ := σ) (τ := σ) (μ := μ) (ν := pI μ a i.toNatClampNeg x) (a := a) rfl rfl (fun j hj => pI_o hj) (pI_a hka (by decide) (by decide))
  rw [e0] at e1 e2
  exact k9 H1 locs1 ls e1 e2 e3 h4
theorem g_zast (X : Cx Γ b cc nL own ret rm) (a : Nat) {n : Nat} {i x : Int32} (d : decode cc pc = .ok (.bastore, 1)) (ha : a < σ.2.1) (hka : kd a = 11) (hz : σ.2.2.2 a = n) (hin : vp_in i n) (hx9 : x = 0 ∨ x = 1) (k9 : Go Γ b (σ) (cells) (slots) (pc + 1) (lv) (st) (pI μ a i.toNatClampNeg x)) : Go Γ b (σ) (cells) (slots) (pc) (lv) (.int x :: .int i :: .ref (σ.1 a) :: st) (μ) := by
  obtain ⟨p, l, e, R, s, m, args, below, meth, c, G, n9, Q⟩ := Γ
  obtain ⟨hx, hb, hml, hn9, hown, hts, hK, hr, hE, hbs, hrm⟩ := X
  subst hn9
  intro H locs ls h1 h2 h3 h4
  have hq : (wW G σ μ)[a]? = some (σ.1 a, .inl (G.2.1 11, σ.2.2.2 a, .inl (μ.1 a))) := by rw [wW_get ha, wE_int hka (by decide) (by decide)]
  subst hz
  refine va_zast hx hb hK h1 h2 h3 a 1 hq rfl hin d (fun H1 locs1 e1 e2 e3 => ?_)
  have e0 := wW_set (G := G) (σ := σ) (τ := σ) (μ := μ) (ν := pI μ a i.toNatClampNeg x) (a := a) rfl rfl (fun j hj => pI_o hj) (pI_a hka (by decide) (by decide))
  rw [show vp_nar .boolean x = x by rcases hx9 with rfl | rfl <;> rfl] at e1 e2
  rw [e0] at e1 e2
  exact k9 H1 locs1 ls e1 e2 e3 h4
theorem g_alen (X : Cx Γ b cc nL own ret rm) (a c0 : Nat) {n : Nat} {v : Int32} (d : decode cc pc = .ok (.arraylength, 1)) (ha : a < σ.2.1) (hka : kd a = c0) (hc9 : c0 = 10) (hz : σ.2.2.2 a = n) (hv : Int32.ofNat n = v) (k9 : Go Γ b (σ) (cells) (slots) (pc + 1) (lv) (.int v :: st) (μ)) : Go Γ b (σ) (cells) (slots) (pc) (lv) (.ref (σ.1 a) :: st) (μ) := by
  obtain ⟨p, l, e, R, s, m, args, below, meth, c, G, n9, Q⟩ := Γ
  obtain ⟨hx, hb, hml, hn9, hown, hts, hK, hr, hE, hbs, hrm⟩ := X
  subst hn9
  intro H locs ls h1 h2 h3 h4
  subst hc9
  have hq : (wW G σ μ)[a]? = some (σ.1 a, .inl (G.2.1 10, σ.2.2.2 a, .inl (μ.1 a))) := by rw [wW_get ha, wE_int hka (by decide) (by decide)]
  exact va_alen hx hb hK h1 a 0 hq rfl (by rw [← hv, ← hz]) d (k9 H locs ls h1 h2 h3 h4)
theorem g_aald12 (X : Cx Γ b cc nL own ret rm) (a : Nat) {n : Nat} {i : Int32} (d : decode cc pc = .ok (.aaload, 1)) (ha : a < σ.2.1) (hka : kd a = 12) (hz : σ.2.2.2 a = n) (hin : vp_in i n) (k9 : Go Γ b (σ) (cells) (slots) (pc + 1) (lv) (va_rf (σ.2.2.1 a i.toNatClampNeg) :: st) (μ)) : Go Γ b (σ) (cells) (slots) (pc) (lv) (.int i :: .ref (σ.1 a) :: st) (μ) := by
  obtain ⟨p, l, e, R, s, m, args, below, meth, c, G, n9, Q⟩ := Γ
  obtain ⟨hx, hb, hml, hn9, hown, hts, hK, hr, hE, hbs, hrm⟩ := X
  subst hn9
  intro H locs ls h1 h2 h3 h4
  have hq : (wW G σ μ)[a]? = some (σ.1 a, .inl (G.2.1 12, σ.2.2.2 a, .inr (.inr (.inr (.inr (σ.2.2.1 a)))))) := by rw [wW_get ha, wE_ref hka (by decide)]
  subst hz
  exact va_aldq hx hb hK h1 a 2 hq rfl hin d (k9 H locs ls h1 h2 h3 h4)
theorem g_aald13 (X : Cx Γ b cc nL own ret rm) (a : Nat) {n : Nat} {i : Int32} (d : decode cc pc = .ok (.aaload, 1)) (ha : a < σ.2.1) (hka : kd a = 13) (hz : σ.2.2.2 a = n) (hin : vp_in i n) (k9 : Go Γ b (σ) (cells) (slots) (pc + 1) (lv) (va_rf (σ.2.2.1 a i.toNatClampNeg) :: st) (μ)) : Go Γ b (σ) (cells) (slots) (pc) (lv) (.int i :: .ref (σ.1 a) :: st) (μ) := by
  obtain ⟨p, l, e, R, s, m, args, below, meth, c, G, n9, Q⟩ := Γ
  obtain ⟨hx, hb, hml, hn9, hown, hts, hK, hr, hE, hbs, hrm⟩ := X
  subst hn9
  intro H locs ls h1 h2 h3 h4
  have hq : (wW G σ μ)[a]? = some (σ.1 a, .inl (G.2.1 13, σ.2.2.2 a, .inr (.inr (.inr (.inr (σ.2.2.1 a)))))) := by rw [wW_get ha, wE_ref hka (by decide)]
  subst hz
  exact va_aldq hx hb hK h1 a 3 hq rfl hin d (k9 H locs ls h1 h2 h3 h4)
theorem g_aald14 (X : Cx Γ b cc nL own ret rm) (a : Nat) {n : Nat} {i : Int32} (d : decode cc pc = .ok (.aaload, 1)) (ha : a < σ.2.1) (hka : kd a = 14) (hz : σ.2.2.2 a = n) (hin : vp_in i n) (k9 : Go Γ b (σ) (cells) (slots) (pc + 1) (lv) (va_rf (σ.2.2.1 a i.toNatClampNeg) :: st) (μ)) : Go Γ b (σ) (cells) (slots) (pc) (lv) (.int i :: .ref (σ.1 a) :: st) (μ) := by
  obtain ⟨p, l, e, R, s, m, args, below, meth, c, G, n9, Q⟩ := Γ
  obtain ⟨hx, hb, hml, hn9, hown, hts, hK, hr, hE, hbs, hrm⟩ := X
  subst hn9
  intro H locs ls h1 h2 h3 h4
  have hq : (wW G σ μ)[a]? = some (σ.1 a, .inl (G.2.1 14, σ.2.2.2 a, .inr (.inr (.inr (.inr (σ.2.2.1 a)))))) := by rw [wW_get ha, wE_ref hka (by decide)]
  subst hz
  exact va_aldq hx hb hK h1 a 4 hq rfl hin d (k9 H locs ls h1 h2 h3 h4)
theorem g_getr {C : String} {TT : u_T} {index x : Nat} (X : Cx Γ b cc nL own ret rm) (a c0 k : Nat) (d : decode cc pc = .ok (.getfield index, 3)) (ha : a < σ.2.1) (hka : kd a = c0) (hc9 : c0 < 10) (hc : vwCl[c0]? = some (C, TT, nf c0)) (hin : ∀ w ∈ u_ws C TT (nf c0), w ∈ WW) (hk : k < nf c0) (hft : ft c0 k = 2) (hw : Cond.fieldLink own index (TT k).1 (TT k).2.1 (TT k).2.2.1 ∈ WW) (hr9 : σ.2.2.1 a k = some x) (k9 : Go Γ b σ cells slots (pc + 3) lv (.ref x :: st) μ) : Go Γ b σ cells slots pc lv (.ref (σ.1 a) :: st) μ := g_getR X a c0 k d ha hka hc9 hc hin hk hft hw (by rw [hr9]; exact k9)
end Rows
