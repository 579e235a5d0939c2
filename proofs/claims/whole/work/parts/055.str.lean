section RowsS
variable {Γ : Ga} {b : Nat} {σ : St} {cells slots pc nL : Nat} {lv lv' : List (Nat × Value)} {st stk : List Value} {μ μ1 : Mem} {cc : ByteArray} {own : String} {ret : Option FieldType} {rm : Room}
theorem g_sval (X : Cx Γ b cc nL own ret rm) {i index : Nat} (d : decode cc pc = .ok (.getfield index, 3)) (hi : i < 3) (hw : Cond.fieldLink own index "java/lang/String" "value" "[B" ∈ WW) (k : Go Γ b (σ) (cells) (slots) (pc + 3) (lv) (.ref ((gG Γ).2.2 (5 + i)) :: st) (μ)) : Go Γ b (σ) (cells) (slots) (pc) (lv) (.ref ((gG Γ).2.2 (2 + i)) :: st) (μ) := by
  obtain ⟨p, l, e, R, s, m, args, below, meth, c, G, n9, Q⟩ := Γ
  obtain ⟨hx, hb, hml, hn9, hown, hts, hK, hr, hE, hbs, hrm⟩ := X
  subst hn9
  intro H locs ls h1 h2 h3 h4
  exact vk_getf hx hb (hE.2.2.2.2.2.2.1.1 i hi).2.2.1 h3 hown (hts _ hw) (fun x h9 => h9) d (k H locs ls h1 h2 h3 h4)
theorem g_scod (X : Cx Γ b cc nL own ret rm) {i index : Nat} (d : decode cc pc = .ok (.getfield index, 3)) (hi : i < 3) (hw : Cond.fieldLink own index "java/lang/String" "coder" "B" ∈ WW) (k : Go Γ b (σ) (cells) (slots) (pc + 3) (lv) (.int 0 :: st) (μ)) : Go Γ b (σ) (cells) (slots) (pc) (lv) (.ref ((gG Γ).2.2 (2 + i)) :: st) (μ) := by
  obtain ⟨p, l, e, R, s, m, args, below, meth, c, G, n9, Q⟩ := Γ
  obtain ⟨hx, hb, hml, hn9, hown, hts, hK, hr, hE, hbs, hrm⟩ := X
  subst hn9
  intro H locs ls h1 h2 h3 h4
  exact vk_getf hx hb (hE.2.2.2.2.2.2.1.1 i hi).2.1 h3 hown (hts _ hw) (fun x h9 => h9) d (k H locs ls h1 h2 h3 h4)
theorem g_slen (X : Cx Γ b cc nL own ret rm) {i : Nat} (d : decode cc pc = .ok (.arraylength, 1)) (hi : i < 3) (k : Go Γ b (σ) (cells) (slots) (pc + 1) (lv) (.int (Int32.ofNat (xL.getD i 0)) :: st) (μ)) : Go Γ b (σ) (cells) (slots) (pc) (lv) (.ref ((gG Γ).2.2 (5 + i)) :: st) (μ) := by
  obtain ⟨p, l, e, R, s, m, args, below, meth, c, G, n9, Q⟩ := Γ
  obtain ⟨hx, hb, hml, hn9, hown, hts, hK, hr, hE, hbs, hrm⟩ := X
  subst hn9
  intro H locs ls h1 h2 h3 h4
  exact va_tlen hx hb (hE.2.2.2.2.2.2.1.1 i hi).2.2.2 h3 rfl d (k H locs ls h1 h2 h3 h4)
theorem g_sbald (X : Cx Γ b cc nL own ret rm) {i : Nat} {k9 : Int32} (d : decode cc pc = .ok (.baload, 1)) (hi : i < 3) (hin : vp_in k9 (xL.getD i 0)) (k : Go Γ b (σ) (cells) (slots) (pc + 1) (lv) (.int ((xB.getD i []).getD k9.toNatClampNeg 0) :: st) (μ)) : Go Γ b (σ) (cells) (slots) (pc) (lv) (.int k9 :: .ref ((gG Γ).2.2 (5 + i)) :: st) (μ) := by
  obtain ⟨p, l, e, R, s, m, args, below, meth, c, G, n9, Q⟩ := Γ
  obtain ⟨hx, hb, hml, hn9, hown, hts, hK, hr, hE, hbs, hrm⟩ := X
  subst hn9
  intro H locs ls h1 h2 h3 h4
  exact va_tb hx hb (hE.2.2.2.2.2.2.1.1 i hi).2.2.2 h3 hin rfl d (k H locs ls h1 h2 h3 h4)
theorem g_getsCS (X : Cx Γ b cc nL own ret rm) {index : Nat} (d : decode cc pc = .ok (.getstatic index, 3)) (hw : Cond.fieldLink own index "java/lang/String" "COMPACT_STRINGS" "Z" ∈ WW) (k : Go Γ b (σ) (cells) (slots) (pc + 3) (lv) (.int 1 :: st) (μ)) : Go Γ b (σ) (cells) (slots) (pc) (lv) (st) (μ) := by
  obtain ⟨p, l, e, R, s, m, args, below, meth, c, G, n9, Q⟩ := Γ
  obtain ⟨hx, hb, hml, hn9, hown, hts, hK, hr, hE, hbs, hrm⟩ := X
  subst hn9
  intro H locs ls h1 h2 h3 h4
  exact va_gets hx hb hE.2.2.2.2.1 h3 hown (hts _ hw) (fun x h9 => h9) d (k H locs ls h1 h2 h3 h4)
theorem g_getsFM (X : Cx Γ b cc nL own ret rm) {index : Nat} (d : decode cc pc = .ok (.getstatic index, 3)) (hw : Cond.fieldLink own index "jdk/internal/util/Preconditions" "SIOOBE_FORMATTER" "Ljava/util/function/BiFunction;" ∈ WW) (k : ∀ o : Option Nat, Go Γ b (σ) (cells) (slots) (pc + 3) (lv) (va_rf o :: st) (μ)) : Go Γ b (σ) (cells) (slots) (pc) (lv) (st) (μ) := by
  obtain ⟨p, l, e, R, s, m, args, below, meth, c, G, n9, Q⟩ := Γ
  obtain ⟨hx, hb, hml, hn9, hown, hts, hK, hr, hE, hbs, hrm⟩ := X
  subst hn9
  intro H locs ls h1 h2 h3 h4
  rcases hE.2.2.2.2.2.1 with hz | ⟨t, hz⟩
  · exact va_gets hx hb hz h3 hown (hts _ hw) (fun x h9 => h9) d (k none H locs ls h1 h2 h3 h4)
  · exact va_gets hx hb hz h3 hown (hts _ hw) (fun x h9 => h9) d (k (some t) H locs ls h1 h2 h3 h4)
theorem g_ldcS0 (X : Cx Γ b cc nL RX9 ret rm) (d : decode cc pc = .ok (.ldc 67, 2)) (k : Go Γ b (σ) (cells) (slots) (pc + 2) (lv) (.ref ((gG Γ).2.2 2) :: st) (μ)) : Go Γ b (σ) (cells) (slots) (pc) (lv) (st) (μ) := by
  obtain ⟨p, l, e, R, s, m, args, below, meth, c, G, n9, Q⟩ := Γ
  obtain ⟨hx, hb, hml, hn9, hown, hts, hK, hr, hE, hbs, hrm⟩ := X
  subst hn9
  intro H locs ls h1 h2 h3 h4
  exact va_ldcS hx hb hown hE.2.2.2.2.2.2.2.1 d (k H locs ls h1 h2 h3 h4)
theorem g_ldcS1 (X : Cx Γ b cc nL RX3 ret rm) (d : decode cc pc = .ok (.ldc 104, 2)) (k : Go Γ b (σ) (cells) (slots) (pc + 2) (lv) (.ref ((gG Γ).2.2 3) :: st) (μ)) : Go Γ b (σ) (cells) (slots) (pc) (lv) (st) (μ) := by
  obtain ⟨p, l, e, R, s, m, args, below, meth, c, G, n9, Q⟩ := Γ
  obtain ⟨hx, hb, hml, hn9, hown, hts, hK, hr, hE, hbs, hrm⟩ := X
  subst hn9
  intro H locs ls h1 h2 h3 h4
  exact va_ldcS hx hb hown hE.2.2.2.2.2.2.2.2.1 d (k H locs ls h1 h2 h3 h4)
theorem g_ldcS2 (X : Cx Γ b cc nL RX3 ret rm) (d : decode cc pc = .ok (.ldc 99, 2)) (k : Go Γ b (σ) (cells) (slots) (pc + 2) (lv) (.ref ((gG Γ).2.2 4) :: st) (μ)) : Go Γ b (σ) (cells) (slots) (pc) (lv) (st) (μ) := by
  obtain ⟨p, l, e, R, s, m, args, below, meth, c, G, n9, Q⟩ := Γ
  obtain ⟨hx, hb, hml, hn9, hown, hts, hK, hr, hE, hbs, hrm⟩ := X
  subst hn9
  intro H locs ls h1 h2 h3 h4
  exact va_ldcS hx hb hown hE.2.2.2.2.2.2.2.2.2.1 d (k H locs ls h1 h2 h3 h4)
theorem g_xVI (X : Cx Γ b cc nL own ret rm) {y : MethodName} {bytes : ByteArray} {maxL : Nat} {rt : Option FieldType} {rm1 : Room} {index n : Nat} {r : Int32} (i : Nat) (As : List Value) (hi : i < 3) (hw9 : wcV own index "java/lang/String" y bytes maxL rt n) (hM : MtI (gL Γ) y bytes maxL rt rm1 (gG Γ) b σ μ (.ref ((gG Γ).2.2 (2 + i)) :: As) (pEI r σ μ1)) (d : decode cc pc = .ok (.invokevirtual index, 3)) (hst : stk = As.reverse ++ .ref ((gG Γ).2.2 (2 + i)) :: st) (hn : As.length = n) (hR : rm1.frames + 1 ≤ rm.frames ∧ 8 + (maxL + 11) + rm1.locals ≤ rm.locals) (hc0 : rm1.cells = 0 ∧ rm1.slots = 0) (hf : cells ≤ rm.cells ∧ slots ≤ rm.slots) (hro : (st.map fun v => v.category).sum ≤ 8) (k : Go Γ b σ cells slots (pc + 3) lv (.int r :: st) μ1) : Go Γ b σ cells slots pc lv stk μ := by
  obtain ⟨p, l, e, R, s, m, args, below, meth, c, G, n9, Q⟩ := Γ
  obtain ⟨hx, hb, hml, hn9, hown, hts, hK, hr, hE, hbs, hrm⟩ := X
  subst hn9
  subst hrm
  intro H locs ls h1 h2 h3 h4
  subst hst
  obtain ⟨w1, w2, w3, w4, w5, w6⟩ := hw9
  have hG := good_c w5
  have cw : CallW R s args own "java/lang/String" index y bytes maxL rt (.code y bytes maxL rt :: WW) rm1 rm1.cells rm1.slots n := ⟨callB_of n hts hG rfl rfl rfl (by rw [w6.1]; exact hts _ w4) (hts _ w1) w6.2 hR, hts _ w2, hts _ w3⟩
  refine va_calli (va_runV (As := As) (rest := st) ⟨hx, hb, hml, hown, hts⟩ hM cw ⟨pre_blind, vk_recv hE.2.2.2.2.2.2.1 hi h3, fun U hU hW => pre_at h1 h2 h3 hK hE hbs hU hW⟩ rfl hn h4.1 rfl (lv_room hro) d (by rw [hc0.1, hc0.2]; exact hf)) h3 (fun q _ h => h) (fun q h => h) (fun r9 u t H1 locs1 ht hvm hw hB hz1 hk1 hS1 => ?_)
  obtain ⟨σ1, μ2⟩ := u
  obtain ⟨rfl, e5, e6⟩ := hw
  dsimp only at e5 e6
  subst e5
  subst e6
  obtain ⟨e1, e2⟩ := hB
  rw [ht] at e1
  rw [hc0.1, hc0.2]
  exact k H1 locs1 ls e1 e2 hS1 h4
theorem nw_c {r : Int32} (h : (r.toUInt32 % 65536).toInt32 = r) : narrow .char (.int r) = .int r := by
  have h2 := pk_nc r
  rw [h] at h2
  exact h2
end RowsS
