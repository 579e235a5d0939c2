/-! cells known by their kind alone: F the three Folks, S the Sheets, V the Views, T the Texts, A rows of six -/
def isF (x : Nat) : Prop := x = 5 ∨ x = 16 ∨ x = 23
def isS (x : Nat) : Prop := x = 55 ∨ x = 57 ∨ x = 59 ∨ x = 61
def isV (x : Nat) : Prop := x = 38 ∨ x = 40 ∨ x = 42 ∨ x = 44 ∨ x = 46 ∨ x = 48
def isT (nt x : Nat) : Prop := ∃ k, k ≤ nt ∧ x = tid k
def isA (x : Nat) : Prop := x < 79 ∧ kd x = 10 ∧ x ≠ 53 ∧ lnL.getD x 0 = 6
theorem A_lt0 {x nt : Nat} (h : isA x) : x < 79 + 3 * nt := sgN h.1
theorem A_kd0 {x : Nat} (h : isA x) : kd x = 10 := h.2.1
theorem A_ln0 {x : Nat} {z : Nat → Nat} (h : isA x) : ln z x = 6 := by rw [ln, if_neg h.2.2.1, if_pos h.1]; exact h.2.2.2
theorem F_lt0 {x nt : Nat} (h : isF x) : x < 79 + 3 * nt := by rcases h with rfl | rfl | rfl <;> exact sgN (by decide)
theorem F_kd0 {x : Nat} (h : isF x) : kd x = 0 := by rcases h with rfl | rfl | rfl <;> rfl
theorem F_lt1 {x nt : Nat} (h : isF x) : x + 1 < 79 + 3 * nt := by rcases h with rfl | rfl | rfl <;> exact sgN (by decide)
theorem F_kd1 {x : Nat} (h : isF x) : kd (x + 1) = 10 := by rcases h with rfl | rfl | rfl <;> rfl
theorem F_ln1 {x : Nat} {z : Nat → Nat} (h : isF x) : ln z (x + 1) = 6 := by rcases h with rfl | rfl | rfl <;> rfl
theorem F_lt2 {x nt : Nat} (h : isF x) : x + 2 < 79 + 3 * nt := by rcases h with rfl | rfl | rfl <;> exact sgN (by decide)
theorem F_kd2 {x : Nat} (h : isF x) : kd (x + 2) = 10 := by rcases h with rfl | rfl | rfl <;> rfl
theorem F_ln2 {x : Nat} {z : Nat → Nat} (h : isF x) : ln z (x + 2) = 6 := by rcases h with rfl | rfl | rfl <;> rfl
theorem F_lt3 {x nt : Nat} (h : isF x) : x + 3 < 79 + 3 * nt := by rcases h with rfl | rfl | rfl <;> exact sgN (by decide)
theorem F_kd3 {x : Nat} (h : isF x) : kd (x + 3) = 10 := by rcases h with rfl | rfl | rfl <;> rfl
theorem F_ln3 {x : Nat} {z : Nat → Nat} (h : isF x) : ln z (x + 3) = 6 := by rcases h with rfl | rfl | rfl <;> rfl
theorem F_lt4 {x nt : Nat} (h : isF x) : x + 4 < 79 + 3 * nt := by rcases h with rfl | rfl | rfl <;> exact sgN (by decide)
theorem F_kd4 {x : Nat} (h : isF x) : kd (x + 4) = 10 := by rcases h with rfl | rfl | rfl <;> rfl
theorem F_ln4 {x : Nat} {z : Nat → Nat} (h : isF x) : ln z (x + 4) = 6 := by rcases h with rfl | rfl | rfl <;> rfl
theorem F_lt5 {x nt : Nat} (h : isF x) : x + 5 < 79 + 3 * nt := by rcases h with rfl | rfl | rfl <;> exact sgN (by decide)
theorem F_kd5 {x : Nat} (h : isF x) : kd (x + 5) = 10 := by rcases h with rfl | rfl | rfl <;> rfl
theorem F_ln5 {x : Nat} {z : Nat → Nat} (h : isF x) : ln z (x + 5) = 6 := by rcases h with rfl | rfl | rfl <;> rfl
theorem F_lt6 {x nt : Nat} (h : isF x) : x + 6 < 79 + 3 * nt := by rcases h with rfl | rfl | rfl <;> exact sgN (by decide)
theorem F_kd6 {x : Nat} (h : isF x) : kd (x + 6) = 10 := by rcases h with rfl | rfl | rfl <;> rfl
theorem F_ln6 {x : Nat} {z : Nat → Nat} (h : isF x) : ln z (x + 6) = 6 := by rcases h with rfl | rfl | rfl <;> rfl
theorem F_r3 {x nt : Nat} {ad : Nat → Nat} (h : isF x) : (rt nt x 3).map ad = some (ad (x + 1)) := by rcases h with rfl | rfl | rfl <;> rfl
theorem F_r4 {x nt : Nat} {ad : Nat → Nat} (h : isF x) : (rt nt x 4).map ad = some (ad (x + 2)) := by rcases h with rfl | rfl | rfl <;> rfl
theorem F_r5 {x nt : Nat} {ad : Nat → Nat} (h : isF x) : (rt nt x 5).map ad = some (ad (x + 3)) := by rcases h with rfl | rfl | rfl <;> rfl
theorem F_r6 {x nt : Nat} {ad : Nat → Nat} (h : isF x) : (rt nt x 6).map ad = some (ad (x + 4)) := by rcases h with rfl | rfl | rfl <;> rfl
theorem F_r7 {x nt : Nat} {ad : Nat → Nat} (h : isF x) : (rt nt x 7).map ad = some (ad (x + 5)) := by rcases h with rfl | rfl | rfl <;> rfl
theorem F_r8 {x nt : Nat} {ad : Nat → Nat} (h : isF x) : (rt nt x 8).map ad = some (ad (x + 6)) := by rcases h with rfl | rfl | rfl <;> rfl
theorem S_lt0 {x nt : Nat} (h : isS x) : x < 79 + 3 * nt := by rcases h with rfl | rfl | rfl | rfl <;> exact sgN (by decide)
theorem S_kd0 {x : Nat} (h : isS x) : kd x = 5 := by rcases h with rfl | rfl | rfl | rfl <;> rfl
theorem S_lt1 {x nt : Nat} (h : isS x) : x + 1 < 79 + 3 * nt := by rcases h with rfl | rfl | rfl | rfl <;> exact sgN (by decide)
theorem S_kd1 {x : Nat} (h : isS x) : kd (x + 1) = 10 := by rcases h with rfl | rfl | rfl | rfl <;> rfl
theorem S_ln1 {x : Nat} {z : Nat → Nat} (h : isS x) : ln z (x + 1) = 40 := by rcases h with rfl | rfl | rfl | rfl <;> rfl
theorem S_r2 {x nt : Nat} {ad : Nat → Nat} (h : isS x) : (rt nt x 2).map ad = some (ad (x + 1)) := by rcases h with rfl | rfl | rfl | rfl <;> rfl
theorem V_lt0 {x nt : Nat} (h : isV x) : x < 79 + 3 * nt := by rcases h with rfl | rfl | rfl | rfl | rfl | rfl <;> exact sgN (by decide)
theorem V_kd0 {x : Nat} (h : isV x) : kd x = 7 := by rcases h with rfl | rfl | rfl | rfl | rfl | rfl <;> rfl
theorem V_lt1 {x nt : Nat} (h : isV x) : x + 1 < 79 + 3 * nt := by rcases h with rfl | rfl | rfl | rfl | rfl | rfl <;> exact sgN (by decide)
theorem V_kd1 {x : Nat} (h : isV x) : kd (x + 1) = 10 := by rcases h with rfl | rfl | rfl | rfl | rfl | rfl <;> rfl
theorem V_ln1 {x : Nat} {z : Nat → Nat} (h : isV x) : ln z (x + 1) = 24 := by rcases h with rfl | rfl | rfl | rfl | rfl | rfl <;> rfl
theorem V_r2 {x nt : Nat} {ad : Nat → Nat} (h : isV x) : (rt nt x 2).map ad = some (ad (x + 1)) := by rcases h with rfl | rfl | rfl | rfl | rfl | rfl <;> rfl
theorem tid_p {k : Nat} (h : 0 < k) : tid k = 76 + 3 * k := by simp only [tid]; rw [if_neg (by omega)]
theorem kd_t {k : Nat} (h : 0 < k) : kd (76 + 3 * k) = 6 ∧ kd (76 + 3 * k + 1) = 10 ∧ kd (76 + 3 * k + 2) = 10 := by
  refine ⟨?_, ?_, ?_⟩
  · rw [kd, if_neg (by omega), if_pos (by omega)]
  · rw [kd, if_neg (by omega), if_neg (by omega)]
  · rw [kd, if_neg (by omega), if_neg (by omega)]
theorem T_c {nt x : Nat} (h : isT nt x) : x = 52 ∨ ∃ k, 0 < k ∧ k ≤ nt ∧ x = 76 + 3 * k := by
  obtain ⟨k, hk, rfl⟩ := h
  by_cases h0 : k = 0
  · subst h0; exact Or.inl rfl
  · exact Or.inr ⟨k, by omega, hk, tid_p (by omega)⟩
theorem T_lt0 {x nt : Nat} (h : isT nt x) : x < 79 + 3 * nt := by rcases T_c h with rfl | ⟨k, h1, h2, rfl⟩ <;> omega
theorem T_lt1 {x nt : Nat} (h : isT nt x) : x + 1 < 79 + 3 * nt := by rcases T_c h with rfl | ⟨k, h1, h2, rfl⟩ <;> omega
theorem T_lt2 {x nt : Nat} (h : isT nt x) : x + 2 < 79 + 3 * nt := by rcases T_c h with rfl | ⟨k, h1, h2, rfl⟩ <;> omega
theorem T_kd0 {x nt : Nat} (h : isT nt x) : kd x = 6 := by
  rcases T_c h with rfl | ⟨k, h1, h2, rfl⟩
  · rfl
  · exact (kd_t h1).1
theorem T_kd1 {x nt : Nat} (h : isT nt x) : kd (x + 1) = 10 := by
  rcases T_c h with rfl | ⟨k, h1, h2, rfl⟩
  · rfl
  · exact (kd_t h1).2.1
theorem T_kd2 {x nt : Nat} (h : isT nt x) : kd (x + 2) = 10 := by
  rcases T_c h with rfl | ⟨k, h1, h2, rfl⟩
  · rfl
  · exact (kd_t h1).2.2
theorem T_r0 {x nt : Nat} {ad : Nat → Nat} (h : isT nt x) : (rt nt x 0).map ad = some (ad (x + 1)) := by
  rcases T_c h with rfl | ⟨k, h1, h2, rfl⟩
  · rfl
  · rw [rt, if_neg (by omega), if_neg (by omega), if_pos (by omega)]; rfl
theorem T_r1 {x nt : Nat} {ad : Nat → Nat} (h : isT nt x) : (rt nt x 1).map ad = some (ad (x + 2)) := by
  rcases T_c h with rfl | ⟨k, h1, h2, rfl⟩
  · rfl
  · rw [rt, if_neg (by omega), if_neg (by omega), if_pos (by omega)]; rfl
theorem inn_lt {x : Int32} {n : Nat} (h : inn x n) : x.toNatClampNeg < n := Nat.not_le.mp fun q => h (Or.inr q)
theorem V_at {i nt : Nat} {ad : Nat → Nat} (h : i < 6) : (rt nt 35 i).map ad = some (ad (38 + 2 * i)) := by
  rcases (show i = 0 ∨ i = 1 ∨ i = 2 ∨ i = 3 ∨ i = 4 ∨ i = 5 by omega) with rfl | rfl | rfl | rfl | rfl | rfl <;> rfl
theorem V_is {i : Nat} (h : i < 6) : isV (38 + 2 * i) := by
  rcases (show i = 0 ∨ i = 1 ∨ i = 2 ∨ i = 3 ∨ i = 4 ∨ i = 5 by omega) with rfl | rfl | rfl | rfl | rfl | rfl <;> simp [isV]
theorem S_at {i nt : Nat} {ad : Nat → Nat} (h : i < 4) : (rt nt 51 i).map ad = some (ad (55 + 2 * i)) := by
  rcases (show i = 0 ∨ i = 1 ∨ i = 2 ∨ i = 3 by omega) with rfl | rfl | rfl | rfl <;> rfl
theorem S_is {i : Nat} (h : i < 4) : isS (55 + 2 * i) := by
  rcases (show i = 0 ∨ i = 1 ∨ i = 2 ∨ i = 3 by omega) with rfl | rfl | rfl | rfl <;> simp [isS]
theorem T_at {i nt : Nat} {ad : Nat → Nat} (h : i ≤ nt) : (rt nt 34 i).map ad = some (ad (tid i)) := by rw [rt, if_pos rfl, if_pos h]; rfl
theorem T_no {i nt : Nat} {ad : Nat → Nat} (h : ¬ i ≤ nt) : (rt nt 34 i).map ad = none := by rw [rt, if_pos rfl, if_neg h]; rfl
def wi {α : Type} (x : Nat) (f : Nat → Option α) : Option α := f x
theorem wi_i {α : Type} {x : Nat} {f : Nat → Option α} {r : α} (h : wi x f = some r) : ∃ w, w = x ∧ f w = some r := ⟨x, rfl, h⟩
def bq {β : Type} (x : Option (Option Nat × Mem)) (f : Option Nat → Mem → Option β) : Option β := match x with
  | none => none
  | some (r, μ) => f r μ
theorem bq_i {β : Type} {x : Option (Option Nat × Mem)} {f : Option Nat → Mem → Option β} {r : β} (h : bq x f = some r) : ∃ (a : Option Nat) (μ : Mem), x = some (a, μ) ∧ f a μ = some r := by
  cases x with
  | none => cases h
  | some q => exact ⟨q.1, q.2, rfl, h⟩
def oq {β : Type} (x : Option Nat) (a : Option β) (f : Nat → Option β) : Option β := match x with
  | none => a
  | some w => f w
section RowsX
variable {Γ : Ga} {b : Nat} {σ : St} {cells slots pc nL : Nat} {lv lv' : List (Nat × Value)} {st : List Value} {μ : Mem} {cc : ByteArray} {own : String} {ret : Option FieldType} {rm : Room}
theorem g_null (X : Cx Γ b cc nL own ret rm)  (d : decode cc pc = .ok (.aconst_null, 1))  (k : Go Γ b (σ) (cells) (slots) (pc + 1) (lv) (.null :: st) (μ)) : Go Γ b (σ) (cells) (slots) (pc) (lv) (st) (μ) := by
  obtain ⟨p, l, e, R, s, m, args, below, meth, c, G, n9, Q⟩ := Γ
  obtain ⟨hx, hb, hml, hn9, hown, hts, hK, hr, hE, hbs, hrm⟩ := X
  subst hn9
  intro H locs ls h1 h2 h3 h4
  exact lv_null hx hb d (k H locs ls h1 h2 h3 h4)
theorem g_ifnull (X : Cx Γ b cc nL own ret rm) {x : Nat} {off : Int} (d : decode cc pc = .ok (.ifnull off, 3))  (k : Go Γ b (σ) (cells) (slots) (pc + 3) (lv) (st) (μ)) : Go Γ b (σ) (cells) (slots) (pc) (lv) (.ref x :: st) (μ) := by
  obtain ⟨p, l, e, R, s, m, args, below, meth, c, G, n9, Q⟩ := Γ
  obtain ⟨hx, hb, hml, hn9, hown, hts, hK, hr, hE, hbs, hrm⟩ := X
  subst hn9
  intro H locs ls h1 h2 h3 h4
  exact lv_ifnull hx hb d (k H locs ls h1 h2 h3 h4)
theorem g_ifnullN (X : Cx Γ b cc nL own ret rm) {off : Int} {tgt : Nat} (d : decode cc pc = .ok (.ifnull off, 3)) (ht : (pc : Int) + off = (tgt : Int)) (k : Go Γ b (σ) (cells) (slots) (tgt) (lv) (st) (μ)) : Go Γ b (σ) (cells) (slots) (pc) (lv) (.null :: st) (μ) := by
  obtain ⟨p, l, e, R, s, m, args, below, meth, c, G, n9, Q⟩ := Γ
  obtain ⟨hx, hb, hml, hn9, hown, hts, hK, hr, hE, hbs, hrm⟩ := X
  subst hn9
  intro H locs ls h1 h2 h3 h4
  exact lv_ifnullN hx hb d ht (k H locs ls h1 h2 h3 h4)
theorem g_ifnonnull (X : Cx Γ b cc nL own ret rm) {x : Nat} {off : Int} {tgt : Nat} (d : decode cc pc = .ok (.ifnonnull off, 3)) (ht : (pc : Int) + off = (tgt : Int)) (k : Go Γ b (σ) (cells) (slots) (tgt) (lv) (st) (μ)) : Go Γ b (σ) (cells) (slots) (pc) (lv) (.ref x :: st) (μ) := by
  obtain ⟨p, l, e, R, s, m, args, below, meth, c, G, n9, Q⟩ := Γ
  obtain ⟨hx, hb, hml, hn9, hown, hts, hK, hr, hE, hbs, hrm⟩ := X
  subst hn9
  intro H locs ls h1 h2 h3 h4
  exact lv_ifnonnull hx hb d ht (k H locs ls h1 h2 h3 h4)
theorem g_ifnonnullN (X : Cx Γ b cc nL own ret rm) {off : Int} (d : decode cc pc = .ok (.ifnonnull off, 3))  (k : Go Γ b (σ) (cells) (slots) (pc + 3) (lv) (st) (μ)) : Go Γ b (σ) (cells) (slots) (pc) (lv) (.null :: st) (μ) := by
  obtain ⟨p, l, e, R, s, m, args, below, meth, c, G, n9, Q⟩ := Γ
  obtain ⟨hx, hb, hml, hn9, hown, hts, hK, hr, hE, hbs, hrm⟩ := X
  subst hn9
  intro H locs ls h1 h2 h3 h4
  exact lv_ifnonnullN hx hb d (k H locs ls h1 h2 h3 h4)
theorem g_aload_nN (X : Cx Γ b cc nL own ret rm) {k9 : _} {i : Nat} (j : Nat) (d : decode cc pc = .ok (.aload_n k9, 1)) (hi : (k9 : Nat) = i) (hj : lv[j]? = some (i, .null)) (k : Go Γ b (σ) (cells) (slots) (pc + 1) (lv) (.null :: st) (μ)) : Go Γ b (σ) (cells) (slots) (pc) (lv) (st) (μ) := by
  obtain ⟨p, l, e, R, s, m, args, below, meth, c, G, n9, Q⟩ := Γ
  obtain ⟨hx, hb, hml, hn9, hown, hts, hK, hr, hE, hbs, hrm⟩ := X
  subst hn9
  intro H locs ls h1 h2 h3 h4
  exact lv_aload_nN hx hb d hi (lv_at h4 j hj) (k H locs ls h1 h2 h3 h4)
theorem g_aloadN (X : Cx Γ b cc nL own ret rm) {i : Nat} (j : Nat) (d : decode cc pc = .ok (.aload i, 2)) (hj : lv[j]? = some (i, .null)) (k : Go Γ b (σ) (cells) (slots) (pc + 2) (lv) (.null :: st) (μ)) : Go Γ b (σ) (cells) (slots) (pc) (lv) (st) (μ) := by
  obtain ⟨p, l, e, R, s, m, args, below, meth, c, G, n9, Q⟩ := Γ
  obtain ⟨hx, hb, hml, hn9, hown, hts, hK, hr, hE, hbs, hrm⟩ := X
  subst hn9
  intro H locs ls h1 h2 h3 h4
  exact lv_aloadN hx hb d (lv_at h4 j hj) (k H locs ls h1 h2 h3 h4)
theorem g_astore_nN (X : Cx Γ b cc nL own ret rm) {k9 : _} {i : Nat} (d : decode cc pc = .ok (.astore_n k9, 1)) (hi : (k9 : Nat) = i) (hn : i < nL) (hl : (i, Value.null) :: lv.filter (fun q => !(q.1 == i) && !(q.1 + 1 == i && q.2.category == 2)) = lv') (k : Go Γ b (σ) (cells) (slots) (pc + 1) (lv') (st) (μ)) : Go Γ b (σ) (cells) (slots) (pc) (lv) (.null :: st) (μ) := by
  obtain ⟨p, l, e, R, s, m, args, below, meth, c, G, n9, Q⟩ := Γ
  obtain ⟨hx, hb, hml, hn9, hown, hts, hK, hr, hE, hbs, hrm⟩ := X
  subst hn9
  intro H locs ls h1 h2 h3 h4
  exact lv_astore_nN hx hb d hi h4 hn hl (fun ls h4 => k H locs ls h1 h2 h3 h4)
theorem g_astoreN (X : Cx Γ b cc nL own ret rm) {i : Nat} (d : decode cc pc = .ok (.astore i, 2)) (hn : i < nL) (hl : (i, Value.null) :: lv.filter (fun q => !(q.1 == i) && !(q.1 + 1 == i && q.2.category == 2)) = lv') (k : Go Γ b (σ) (cells) (slots) (pc + 2) (lv') (st) (μ)) : Go Γ b (σ) (cells) (slots) (pc) (lv) (.null :: st) (μ) := by
  obtain ⟨p, l, e, R, s, m, args, below, meth, c, G, n9, Q⟩ := Γ
  obtain ⟨hx, hb, hml, hn9, hown, hts, hK, hr, hE, hbs, hrm⟩ := X
  subst hn9
  intro H locs ls h1 h2 h3 h4
  exact lv_astoreN hx hb d h4 hn hl (fun ls h4 => k H locs ls h1 h2 h3 h4)
theorem g_getsMS (X : Cx Γ b cc nL own ret rm) {index : Nat} (d : decode cc pc = .ok (.getstatic index, 3)) (hw : Cond.fieldLink own index "PaidInKind" "MOST_SET" "[I" ∈ WW) (k : Go Γ b (σ) (cells) (slots) (pc + 3) (lv) (.ref ((gG Γ).2.2 0) :: st) (μ)) : Go Γ b (σ) (cells) (slots) (pc) (lv) (st) (μ) := by
  obtain ⟨p, l, e, R, s, m, args, below, meth, c, G, n9, Q⟩ := Γ
  obtain ⟨hx, hb, hml, hn9, hown, hts, hK, hr, hE, hbs, hrm⟩ := X
  subst hn9
  intro H locs ls h1 h2 h3 h4
  exact va_gets hx hb hE.1 h3 hown (hts _ hw) (fun x h9 => h9) d (k H locs ls h1 h2 h3 h4)
theorem g_tldMS (X : Cx Γ b cc nL own ret rm) {i : Int32} (d : decode cc pc = .ok (.iaload, 1)) (hin : vp_in i 5) (k : Go Γ b (σ) (cells) (slots) (pc + 1) (lv) (.int (([999, 9, 7, 255, 255] : List Int32).getD i.toNatClampNeg 0) :: st) (μ)) : Go Γ b (σ) (cells) (slots) (pc) (lv) (.int i :: .ref ((gG Γ).2.2 0) :: st) (μ) := by
  obtain ⟨p, l, e, R, s, m, args, below, meth, c, G, n9, Q⟩ := Γ
  obtain ⟨hx, hb, hml, hn9, hown, hts, hK, hr, hE, hbs, hrm⟩ := X
  subst hn9
  intro H locs ls h1 h2 h3 h4
  exact va_ti hx hb hE.2.1 h3 hin rfl d (k H locs ls h1 h2 h3 h4)
theorem g_tlenMS (X : Cx Γ b cc nL own ret rm) {v : Int32} (d : decode cc pc = .ok (.arraylength, 1)) (hv : Int32.ofNat 5 = v) (k : Go Γ b (σ) (cells) (slots) (pc + 1) (lv) (.int v :: st) (μ)) : Go Γ b (σ) (cells) (slots) (pc) (lv) (.ref ((gG Γ).2.2 0) :: st) (μ) := by
  obtain ⟨p, l, e, R, s, m, args, below, meth, c, G, n9, Q⟩ := Γ
  obtain ⟨hx, hb, hml, hn9, hown, hts, hK, hr, hE, hbs, hrm⟩ := X
  subst hn9
  intro H locs ls h1 h2 h3 h4
  exact va_tlen hx hb hE.2.1 h3 hv d (k H locs ls h1 h2 h3 h4)
theorem g_getsAB (X : Cx Γ b cc nL own ret rm) {index : Nat} (d : decode cc pc = .ok (.getstatic index, 3)) (hw : Cond.fieldLink own index "PaidInKind$Kinds" "ABOVE" "[I" ∈ WW) (k : Go Γ b (σ) (cells) (slots) (pc + 3) (lv) (.ref ((gG Γ).2.2 1) :: st) (μ)) : Go Γ b (σ) (cells) (slots) (pc) (lv) (st) (μ) := by
  obtain ⟨p, l, e, R, s, m, args, below, meth, c, G, n9, Q⟩ := Γ
  obtain ⟨hx, hb, hml, hn9, hown, hts, hK, hr, hE, hbs, hrm⟩ := X
  subst hn9
  intro H locs ls h1 h2 h3 h4
  exact va_gets hx hb hE.2.2.1 h3 hown (hts _ hw) (fun x h9 => h9) d (k H locs ls h1 h2 h3 h4)
theorem g_tldAB (X : Cx Γ b cc nL own ret rm) {i : Int32} (d : decode cc pc = .ok (.iaload, 1)) (hin : vp_in i 6) (k : Go Γ b (σ) (cells) (slots) (pc + 1) (lv) (.int (([-1, 0, 0, 1, 2, 0] : List Int32).getD i.toNatClampNeg 0) :: st) (μ)) : Go Γ b (σ) (cells) (slots) (pc) (lv) (.int i :: .ref ((gG Γ).2.2 1) :: st) (μ) := by
  obtain ⟨p, l, e, R, s, m, args, below, meth, c, G, n9, Q⟩ := Γ
  obtain ⟨hx, hb, hml, hn9, hown, hts, hK, hr, hE, hbs, hrm⟩ := X
  subst hn9
  intro H locs ls h1 h2 h3 h4
  exact va_ti hx hb hE.2.2.2.1 h3 hin rfl d (k H locs ls h1 h2 h3 h4)
theorem g_tlenAB (X : Cx Γ b cc nL own ret rm) {v : Int32} (d : decode cc pc = .ok (.arraylength, 1)) (hv : Int32.ofNat 6 = v) (k : Go Γ b (σ) (cells) (slots) (pc + 1) (lv) (.int v :: st) (μ)) : Go Γ b (σ) (cells) (slots) (pc) (lv) (.ref ((gG Γ).2.2 1) :: st) (μ) := by
  obtain ⟨p, l, e, R, s, m, args, below, meth, c, G, n9, Q⟩ := Γ
  obtain ⟨hx, hb, hml, hn9, hown, hts, hK, hr, hE, hbs, hrm⟩ := X
  subst hn9
  intro H locs ls h1 h2 h3 h4
  exact va_tlen hx hb hE.2.2.2.1 h3 hv d (k H locs ls h1 h2 h3 h4)
theorem g_aaldr12 (X : Cx Γ b cc nL own ret rm) (a : Nat) {n : Nat} {i : Int32} {x : Nat} (d : decode cc pc = .ok (.aaload, 1)) (ha : a < σ.2.1) (hka : kd a = 12) (hz : σ.2.2.2 a = n) (hin : vp_in i n) (hr9 : σ.2.2.1 a i.toNatClampNeg = some x) (k9 : Go Γ b σ cells slots (pc + 1) lv (.ref x :: st) μ) : Go Γ b σ cells slots pc lv (.int i :: .ref (σ.1 a) :: st) μ := g_aald12 X a d ha hka hz hin (by rw [hr9]; exact k9)
theorem g_aaldn12 (X : Cx Γ b cc nL own ret rm) (a : Nat) {n : Nat} {i : Int32} (d : decode cc pc = .ok (.aaload, 1)) (ha : a < σ.2.1) (hka : kd a = 12) (hz : σ.2.2.2 a = n) (hin : vp_in i n) (hr9 : σ.2.2.1 a i.toNatClampNeg = none) (k9 : Go Γ b σ cells slots (pc + 1) lv (.null :: st) μ) : Go Γ b σ cells slots pc lv (.int i :: .ref (σ.1 a) :: st) μ := g_aald12 X a d ha hka hz hin (by rw [hr9]; exact k9)
theorem g_aaldr13 (X : Cx Γ b cc nL own ret rm) (a : Nat) {n : Nat} {i : Int32} {x : Nat} (d : decode cc pc = .ok (.aaload, 1)) (ha : a < σ.2.1) (hka : kd a = 13) (hz : σ.2.2.2 a = n) (hin : vp_in i n) (hr9 : σ.2.2.1 a i.toNatClampNeg = some x) (k9 : Go Γ b σ cells slots (pc + 1) lv (.ref x :: st) μ) : Go Γ b σ cells slots pc lv (.int i :: .ref (σ.1 a) :: st) μ := g_aald13 X a d ha hka hz hin (by rw [hr9]; exact k9)
theorem g_aaldn13 (X : Cx Γ b cc nL own ret rm) (a : Nat) {n : Nat} {i : Int32} (d : decode cc pc = .ok (.aaload, 1)) (ha : a < σ.2.1) (hka : kd a = 13) (hz : σ.2.2.2 a = n) (hin : vp_in i n) (hr9 : σ.2.2.1 a i.toNatClampNeg = none) (k9 : Go Γ b σ cells slots (pc + 1) lv (.null :: st) μ) : Go Γ b σ cells slots pc lv (.int i :: .ref (σ.1 a) :: st) μ := g_aald13 X a d ha hka hz hin (by rw [hr9]; exact k9)
theorem g_aaldr14 (X : Cx Γ b cc nL own ret rm) (a : Nat) {n : Nat} {i : Int32} {x : Nat} (d : decode cc pc = .ok (.aaload, 1)) (ha : a < σ.2.1) (hka : kd a = 14) (hz : σ.2.2.2 a = n) (hin : vp_in i n) (hr9 : σ.2.2.1 a i.toNatClampNeg = some x) (k9 : Go Γ b σ cells slots (pc + 1) lv (.ref x :: st) μ) : Go Γ b σ cells slots pc lv (.int i :: .ref (σ.1 a) :: st) μ := g_aald14 X a d ha hka hz hin (by rw [hr9]; exact k9)
theorem g_aaldn14 (X : Cx Γ b cc nL own ret rm) (a : Nat) {n : Nat} {i : Int32} (d : decode cc pc = .ok (.aaload, 1)) (ha : a < σ.2.1) (hka : kd a = 14) (hz : σ.2.2.2 a = n) (hin : vp_in i n) (hr9 : σ.2.2.1 a i.toNatClampNeg = none) (k9 : Go Γ b σ cells slots (pc + 1) lv (.null :: st) μ) : Go Γ b σ cells slots pc lv (.int i :: .ref (σ.1 a) :: st) μ := g_aald14 X a d ha hka hz hin (by rw [hr9]; exact k9)
def pC (μ : Mem) (a c sp dp n : Nat) : Mem := (va_up μ.1 c (va_cpy (μ.1 a) (μ.1 c) sp dp n), μ.2)
theorem g_copyi (X : Cx Γ b cc nL own ret rm) (a c9 : Nat) {na nc : Nat} {sp dp n : Int32} {index : Nat} (d : decode cc pc = .ok (.invokestatic index, 3)) (hl : Cond.methodLink own index arraycopyName ∈ WW) (hnat : Cond.native arraycopyName ∈ WW) (hst : Cond.static arraycopyName ∈ WW) (hin : Cond.initialized "java/lang/System" ∈ WW) (ha : a < σ.2.1) (hka : kd a = 10) (hza : σ.2.2.2 a = na) (hc : c9 < σ.2.1) (hkc : kd c9 = 10) (hzc : σ.2.2.2 c9 = nc) (g1 : ¬ sp < 0) (g2 : ¬ dp < 0) (g3 : ¬ n < 0) (g4 : sp.toNatClampNeg + n.toNatClampNeg ≤ na) (g5 : dp.toNatClampNeg + n.toNatClampNeg ≤ nc) (hfr : 1 ≤ rm.frames) (hlo : (st.map fun v => v.category).sum + (nativeFrameWords "java/lang/System" "arraycopy" 5 + 11) ≤ rm.locals) (k9 : Go Γ b (σ) (cells) (slots) (pc + 3) (lv) (st) (pC μ a c9 sp.toNatClampNeg dp.toNatClampNeg n.toNatClampNeg)) : Go Γ b (σ) (cells) (slots) (pc) (lv) (.int n :: .int dp :: .ref (σ.1 c9) :: .int sp :: .ref (σ.1 a) :: st) (μ) := by
  obtain ⟨p, l, e, R, s, m, args, below, meth, c, G, n9, Q⟩ := Γ
  obtain ⟨hx, hb, hml, hn9, hown, hts, hK, hr, hE, hbs, hrm⟩ := X
  subst hn9
  intro H locs ls h1 h2 h3 h4
  subst hrm
  have hq0 : (wW G σ μ)[a]? = some (σ.1 a, .inl (G.2.1 10, σ.2.2.2 a, .inl (μ.1 a))) := by rw [wW_get ha, wE_int hka (by decide) (by decide)]
  have hq1 : (wW G σ μ)[c9]? = some (σ.1 c9, .inl (G.2.1 10, σ.2.2.2 c9, .inl (μ.1 c9))) := by rw [wW_get hc, wE_int hkc (by decide) (by decide)]
  subst hza
  subst hzc
  refine va_copyi hx hb (by rw [hml]; exact h4.1.symm) hown (hts _ hl) (hts _ hnat) (hts _ hst) (hts _ hin) hK h1 h2 h3 a c9 0 0 hq0 hq1 rfl rfl rfl g1 g2 g3 g4 g5 (fun i hi => rfl) hfr hlo d (fun H1 locs1 e1 e2 e3 => ?_)
  have e0 := wW_set (G := G) (σ := σ) (τ := σ) (μ := μ) (ν := pC μ a c9 sp.toNatClampNeg dp.toNatClampNeg n.toNatClampNeg) (a := c9) rfl rfl (fun j hj => wE_congr (va_up_ne _ _ hj) rfl rfl rfl) (e := .inl (G.2.1 10, σ.2.2.2 c9, .inl (va_cpy (μ.1 a) (μ.1 c9) sp.toNatClampNeg dp.toNatClampNeg n.toNatClampNeg))) (by rw [wE_int hkc (by decide) (by decide)]; simp only [pC, va_up_self])
  rw [e0] at e1 e2
  exact k9 H1 locs1 ls e1 e2 e3 h4
theorem g_mmax (X : Cx Γ b cc nL own ret rm) {x y : Int32} {index : Nat} (d : decode cc pc = .ok (.invokestatic index, 3)) (hl : Cond.methodLink own index Lib.Math.max.name ∈ WW) (hst : Cond.static Lib.Math.max.name ∈ WW) (hin : Cond.initialized "java/lang/Math" ∈ WW) (hco : Cond.code Lib.Math.max.name Lib.Math.max.code 2 (some .int) ∈ WW) (hfr : 1 ≤ rm.frames) (hlo : (st.map fun v => v.category).sum + 13 ≤ rm.locals) (hcs : cells ≤ rm.cells ∧ slots ≤ rm.slots) (k : Go Γ b (σ) (cells) (slots) (pc + 3) (lv) (.int (if x < y then y else x) :: st) (μ)) : Go Γ b (σ) (cells) (slots) (pc) (lv) (.int y :: .int x :: st) (μ) := by
  obtain ⟨p, l, e, R, s, m, args, below, meth, c, G, n9, Q⟩ := Γ
  obtain ⟨hx, hb, hml, hn9, hown, hts, hK, hr, hE, hbs, hrm⟩ := X
  subst hn9
  intro H locs ls h1 h2 h3 h4
  subst hrm
  exact va_mmax hx hb (by rw [hml]; exact h4.1.symm) hown (hts _ hl) (hts _ hst) (hts _ hin) (hts _ hco) hfr hlo hcs.1 hcs.2 d (k H locs ls h1 h2 h3 h4)
theorem g_mmin (X : Cx Γ b cc nL own ret rm) {x y : Int32} {index : Nat} (d : decode cc pc = .ok (.invokestatic index, 3)) (hl : Cond.methodLink own index Lib.Math.min.name ∈ WW) (hst : Cond.static Lib.Math.min.name ∈ WW) (hin : Cond.initialized "java/lang/Math" ∈ WW) (hco : Cond.code Lib.Math.min.name Lib.Math.min.code 2 (some .int) ∈ WW) (hfr : 1 ≤ rm.frames) (hlo : (st.map fun v => v.category).sum + 13 ≤ rm.locals) (hcs : cells ≤ rm.cells ∧ slots ≤ rm.slots) (k : Go Γ b (σ) (cells) (slots) (pc + 3) (lv) (.int (if y < x then y else x) :: st) (μ)) : Go Γ b (σ) (cells) (slots) (pc) (lv) (.int y :: .int x :: st) (μ) := by
  obtain ⟨p, l, e, R, s, m, args, below, meth, c, G, n9, Q⟩ := Γ
  obtain ⟨hx, hb, hml, hn9, hown, hts, hK, hr, hE, hbs, hrm⟩ := X
  subst hn9
  intro H locs ls h1 h2 h3 h4
  subst hrm
  exact va_mmin hx hb (by rw [hml]; exact h4.1.symm) hown (hts _ hl) (hts _ hst) (hts _ hin) (hts _ hco) hfr hlo hcs.1 hcs.2 d (k H locs ls h1 h2 h3 h4)
end RowsX
