theorem lg_cmp_self (x : Int64) : lg_cmp x x = 0 := by simp [lg_cmp]
def ScrOk (Γ : Ga) (b0 bs L : Nat) (xs : Nat → Int32) : Prop := va_X bs L xs Γ.2.2.2.2.1 Γ.2.2.2.2.1.heap ∧ bs < Γ.2.2.2.2.1.heap.size ∧ ¬ wB b0 bs
section LawRows
variable {Γ : Ga} {b : Nat} {σ : St} {cells slots pc nL : Nat} {lv : List (Nat × Value)} {st : List Value} {μ : Mem} {cc : ByteArray} {own : String} {ret : Option FieldType} {rm : Room} {bs L : Nat} {xs : Nat → Int32}
theorem g_sld (X : Cx Γ b cc nL own ret rm) (hX : ScrOk Γ b bs L xs) {i : Int32} (d : decode cc pc = .ok (.iaload, 1)) (hin : vp_in i L) (k : Go Γ b σ cells slots (pc + 1) lv (.int (xs i.toNatClampNeg) :: st) μ) : Go Γ b σ cells slots pc lv (.int i :: .ref bs :: st) μ := by
  obtain ⟨p, l, e, R, s, m, args, below, meth, c, G, n9, Q⟩ := Γ
  obtain ⟨hx, hb, hml, hn9, hown, hts, hK, hr, hE, hbs, hrm⟩ := X
  intro H locs ls h1 h2 h3 h4
  exact va_sld hx hb hX.1 hX.2.1 hX.2.2 h3 hin d (k H locs ls h1 h2 h3 h4)
theorem g_slen9 (X : Cx Γ b cc nL own ret rm) (hX : ScrOk Γ b bs L xs) (d : decode cc pc = .ok (.arraylength, 1)) (k : Go Γ b σ cells slots (pc + 1) lv (.int (Int32.ofNat L) :: st) μ) : Go Γ b σ cells slots pc lv (.ref bs :: st) μ := by
  obtain ⟨p, l, e, R, s, m, args, below, meth, c, G, n9, Q⟩ := Γ
  obtain ⟨hx, hb, hml, hn9, hown, hts, hK, hr, hE, hbs, hrm⟩ := X
  intro H locs ls h1 h2 h3 h4
  exact va_slen hx hb hX.1 hX.2.1 hX.2.2 h3 d (k H locs ls h1 h2 h3 h4)
end LawRows
theorem lw_cond {L j : Nat} (hL : L ≤ 3072) (hj : j ≤ 4000) (h : ¬ Int32.ofNat L - 6 < nI j) : j + 6 ≤ L := by
  have e : (nI L - nI 6).toInt = (L : Int) - 6 := pk_sub_toInt (a := L) (b := 6) (by omega) (by decide)
  have e2 : (nI j).toInt = (j : Int) := nI_toInt (by omega)
  rcases Nat.lt_or_ge L (j + 6) with q | q
  · exfalso; apply h
    show nI L - nI 6 < nI j
    rw [Int32.lt_iff_toInt_lt, e, e2]; omega
  · exact q
theorem lw_in {L j q : Nat} (hL : L ≤ 3072) (h : j + q < L) : vp_in (nI j + nI q) L := by rw [nI_add]; exact vp_in_nI h (by omega)
theorem kV_L_13 : wcV RL 13 RX9 yX9_set cX9_set 6 (some .int) 3 := ⟨q_ml_L_13, q_im_yX9_set, q_se_yX9_set, q_in_X9, q_co_yX9_set, by decide +kernel⟩
theorem kV_L_17 : wcV RL 17 RX10 yX10_set cX10_set 5 (some .int) 3 := ⟨q_ml_L_17, q_im_yX10_set, q_se_yX10_set, q_in_X10, q_co_yX10_set, by decide +kernel⟩
def ob_set (Inv : Nat → Nat → (Nat → Nat) → Mem → Prop) : Prop := ∀ (c nt : Nat) (z : Nat → Nat) (m : Mem) (a1 a2 a3 : Int32), c ≤ 513 → Inv c nt z m → ∃ (r : Int32) (m1 m2 : Mem), X9_set a1 a2 a3 m = some (r, m1) ∧ X10_set a1 a2 a3 m1 = some (r, m2) ∧ Inv (c + 1) nt z m2
theorem kV_L_18 : wcV RL 18 RX9 yX9_road cX9_road 4 (some .int) 3 := ⟨q_ml_L_18, q_im_yX9_road, q_se_yX9_road, q_in_X9, q_co_yX9_road, by decide +kernel⟩
theorem kV_L_21 : wcV RL 21 RX10 yX10_road cX10_road 5 (some .int) 3 := ⟨q_ml_L_21, q_im_yX10_road, q_se_yX10_road, q_in_X10, q_co_yX10_road, by decide +kernel⟩
def ob_road (Inv : Nat → Nat → (Nat → Nat) → Mem → Prop) : Prop := ∀ (c nt : Nat) (z : Nat → Nat) (m : Mem) (a1 a2 a3 : Int32), c ≤ 513 → Inv c nt z m → ∃ (r : Int32) (m1 m2 : Mem), X9_road a1 a2 a3 m = some (r, m1) ∧ X10_road a1 a2 a3 m1 = some (r, m2) ∧ Inv (c + 1) nt z m2
theorem kV_L_22 : wcV RL 22 RX9 yX9_person cX9_person 4 (some .int) 3 := ⟨q_ml_L_22, q_im_yX9_person, q_se_yX9_person, q_in_X9, q_co_yX9_person, by decide +kernel⟩
theorem kV_L_25 : wcV RL 25 RX10 yX10_person cX10_person 4 (some .int) 3 := ⟨q_ml_L_25, q_im_yX10_person, q_se_yX10_person, q_in_X10, q_co_yX10_person, by decide +kernel⟩
def ob_person (Inv : Nat → Nat → (Nat → Nat) → Mem → Prop) : Prop := ∀ (c nt : Nat) (z : Nat → Nat) (m : Mem) (a1 a2 a3 : Int32), c ≤ 513 → Inv c nt z m → ∃ (r : Int32) (m1 m2 : Mem), X9_person a1 a2 a3 m = some (r, m1) ∧ X10_person a1 a2 a3 m1 = some (r, m2) ∧ Inv (c + 1) nt z m2
theorem kV_L_26 : wcV RL 26 RX9 yX9_told cX9_told 3 (some .int) 2 := ⟨q_ml_L_26, q_im_yX9_told, q_se_yX9_told, q_in_X9, q_co_yX9_told, by decide +kernel⟩
theorem kV_L_30 : wcV RL 30 RX10 yX10_told cX10_told 4 (some .int) 2 := ⟨q_ml_L_30, q_im_yX10_told, q_se_yX10_told, q_in_X10, q_co_yX10_told, by decide +kernel⟩
def ob_told (Inv : Nat → Nat → (Nat → Nat) → Mem → Prop) : Prop := ∀ (c nt : Nat) (z : Nat → Nat) (m : Mem) (a1 a2 : Int32), c ≤ 513 → Inv c nt z m → ∃ (r : Int32) (m1 m2 : Mem), X9_told nt z a1 a2 m = some (r, m1) ∧ X10_told a1 a2 m1 = some (r, m2) ∧ Inv (c + 1) nt z m2
theorem kV_L_31 : wcV RL 31 RX9 yX9_feed cX9_feed 2 (some .int) 1 := ⟨q_ml_L_31, q_im_yX9_feed, q_se_yX9_feed, q_in_X9, q_co_yX9_feed, by decide +kernel⟩
theorem kV_L_35 : wcV RL 35 RX10 yX10_feed cX10_feed 2 (some .int) 1 := ⟨q_ml_L_35, q_im_yX10_feed, q_se_yX10_feed, q_in_X10, q_co_yX10_feed, by decide +kernel⟩
def ob_feed (Inv : Nat → Nat → (Nat → Nat) → Mem → Prop) : Prop := ∀ (c nt : Nat) (z : Nat → Nat) (m : Mem) (a1 : Int32), c ≤ 513 → Inv c nt z m → ∃ (r : Int32) (m1 m2 : Mem), X9_feed a1 m = some (r, m1) ∧ X10_feed a1 m1 = some (r, m2) ∧ Inv (c + 1) nt z m2
theorem kV_L_36 : wcV RL 36 RX9 yX9_text cX9_text 2 (some .int) 0 := ⟨q_ml_L_36, q_im_yX9_text, q_se_yX9_text, q_in_X9, q_co_yX9_text, by decide +kernel⟩
theorem kV_L_40 : wcV RL 40 RX10 yX10_text cX10_text 2 (some .int) 0 := ⟨q_ml_L_40, q_im_yX10_text, q_se_yX10_text, q_in_X10, q_co_yX10_text, by decide +kernel⟩
theorem kV_L_41 : wcV RL 41 RX9 yX9_force cX9_force 3 (some .int) 1 := ⟨q_ml_L_41, q_im_yX9_force, q_se_yX9_force, q_in_X9, q_co_yX9_force, by decide +kernel⟩
theorem kV_L_44 : wcV RL 44 RX10 yX10_force cX10_force 3 (some .int) 1 := ⟨q_ml_L_44, q_im_yX10_force, q_se_yX10_force, q_in_X10, q_co_yX10_force, by decide +kernel⟩
def ob_force (Inv : Nat → Nat → (Nat → Nat) → Mem → Prop) : Prop := ∀ (c nt : Nat) (z : Nat → Nat) (m : Mem) (a1 : Int32), c ≤ 513 → Inv c nt z m → ∃ (r : Int32) (m1 m2 : Mem), X9_force a1 m = some (r, m1) ∧ X10_force a1 m1 = some (r, m2) ∧ Inv (c + 1) nt z m2
theorem kV_L_45 : wcV RL 45 RX9 yX9_pays cX9_pays 4 (some .int) 3 := ⟨q_ml_L_45, q_im_yX9_pays, q_se_yX9_pays, q_in_X9, q_co_yX9_pays, by decide +kernel⟩
theorem kV_L_48 : wcV RL 48 RX10 yX10_pays cX10_pays 4 (some .int) 3 := ⟨q_ml_L_48, q_im_yX10_pays, q_se_yX10_pays, q_in_X10, q_co_yX10_pays, by decide +kernel⟩
def ob_pays (Inv : Nat → Nat → (Nat → Nat) → Mem → Prop) : Prop := ∀ (c nt : Nat) (z : Nat → Nat) (m : Mem) (a1 a2 a3 : Int32), c ≤ 513 → Inv c nt z m → ∃ (r : Int32) (m1 m2 : Mem), X9_pays nt z a1 a2 a3 m = some (r, m1) ∧ X10_pays a1 a2 a3 m1 = some (r, m2) ∧ Inv (c + 1) nt z m2
theorem kV_L_49 : wcV RL 49 RX9 yX9_trade cX9_trade 5 (some .int) 3 := ⟨q_ml_L_49, q_im_yX9_trade, q_se_yX9_trade, q_in_X9, q_co_yX9_trade, by decide +kernel⟩
theorem kV_L_52 : wcV RL 52 RX10 yX10_trade cX10_trade 5 (some .int) 3 := ⟨q_ml_L_52, q_im_yX10_trade, q_se_yX10_trade, q_in_X10, q_co_yX10_trade, by decide +kernel⟩
def ob_trade (Inv : Nat → Nat → (Nat → Nat) → Mem → Prop) : Prop := ∀ (c nt : Nat) (z : Nat → Nat) (m : Mem) (a1 a2 a3 : Int32), c ≤ 513 → Inv c nt z m → ∃ (r : Int32) (m1 m2 : Mem), X9_trade nt z a1 a2 a3 m = some (r, m1) ∧ X10_trade a1 a2 a3 m1 = some (r, m2) ∧ Inv (c + 1) nt z m2
theorem kV_L_53 : wcV RL 53 RX9 yX9_round cX9_round 1 (some .int) 0 := ⟨q_ml_L_53, q_im_yX9_round, q_se_yX9_round, q_in_X9, q_co_yX9_round, by decide +kernel⟩
theorem kV_L_56 : wcV RL 56 RX10 yX10_round cX10_round 1 (some .int) 0 := ⟨q_ml_L_56, q_im_yX10_round, q_se_yX10_round, q_in_X10, q_co_yX10_round, by decide +kernel⟩
def ob_round (Inv : Nat → Nat → (Nat → Nat) → Mem → Prop) : Prop := ∀ (c nt : Nat) (z : Nat → Nat) (m : Mem), c ≤ 513 → Inv c nt z m → ∃ (r : Int32) (m1 m2 : Mem), X9_round nt z  m = some (r, m1) ∧ X10_round  m1 = some (r, m2) ∧ Inv (c + 1) nt z m2
theorem kV_L_57 : wcV RL 57 RX9 yX9_run cX9_run 4 (some .int) 2 := ⟨q_ml_L_57, q_im_yX9_run, q_se_yX9_run, q_in_X9, q_co_yX9_run, by decide +kernel⟩
theorem kV_L_60 : wcV RL 60 RX10 yX10_run cX10_run 5 (some .int) 2 := ⟨q_ml_L_60, q_im_yX10_run, q_se_yX10_run, q_in_X10, q_co_yX10_run, by decide +kernel⟩
def ob_run (Inv : Nat → Nat → (Nat → Nat) → Mem → Prop) : Prop := ∀ (c nt : Nat) (z : Nat → Nat) (m : Mem) (a1 a2 : Int32), c ≤ 513 → Inv c nt z m → ∃ (r : Int32) (m1 m2 : Mem), X9_run nt z a1 a2 m = some (r, m1) ∧ X10_run a1 a2 m1 = some (r, m2) ∧ Inv (c + 1) nt z m2
theorem kV_L_61 : wcV RL 61 RX9 yX9_all cX9_all 2 (some .int) 1 := ⟨q_ml_L_61, q_im_yX9_all, q_se_yX9_all, q_in_X9, q_co_yX9_all, by decide +kernel⟩
theorem kV_L_64 : wcV RL 64 RX10 yX10_all cX10_all 5 (some .int) 1 := ⟨q_ml_L_64, q_im_yX10_all, q_se_yX10_all, q_in_X10, q_co_yX10_all, by decide +kernel⟩
def ob_all (Inv : Nat → Nat → (Nat → Nat) → Mem → Prop) : Prop := ∀ (c nt : Nat) (z : Nat → Nat) (m : Mem) (a1 : Int32), c ≤ 513 → Inv c nt z m → ∃ (r : Int32) (m1 m2 : Mem), X9_all nt z a1 m = some (r, m1) ∧ X10_all a1 m1 = some (r, m2) ∧ Inv (c + 1) nt z m2
theorem kV_L_65 : wcV RL 65 RX9 yX9_soon cX9_soon 5 (some .int) 2 := ⟨q_ml_L_65, q_im_yX9_soon, q_se_yX9_soon, q_in_X9, q_co_yX9_soon, by decide +kernel⟩
theorem kV_L_68 : wcV RL 68 RX10 yX10_soon cX10_soon 4 (some .int) 2 := ⟨q_ml_L_68, q_im_yX10_soon, q_se_yX10_soon, q_in_X10, q_co_yX10_soon, by decide +kernel⟩
def ob_soon (Inv : Nat → Nat → (Nat → Nat) → Mem → Prop) : Prop := ∀ (c nt : Nat) (z : Nat → Nat) (m : Mem) (a1 a2 : Int32), c ≤ 513 → Inv c nt z m → ∃ (r : Int32) (m1 m2 : Mem), X9_soon nt z a1 a2 m = some (r, m1) ∧ X10_soon a1 a2 m1 = some (r, m2) ∧ Inv (c + 1) nt z m2
theorem kV_L_69 : wcV RL 69 RX9 yX9_gift cX9_gift 7 (some .int) 2 := ⟨q_ml_L_69, q_im_yX9_gift, q_se_yX9_gift, q_in_X9, q_co_yX9_gift, by decide +kernel⟩
theorem kV_L_72 : wcV RL 72 RX10 yX10_gift cX10_gift 7 (some .int) 2 := ⟨q_ml_L_72, q_im_yX10_gift, q_se_yX10_gift, q_in_X10, q_co_yX10_gift, by decide +kernel⟩
def ob_gift (Inv : Nat → Nat → (Nat → Nat) → Mem → Prop) : Prop := ∀ (c nt : Nat) (z : Nat → Nat) (m : Mem) (a1 a2 : Int32), c ≤ 513 → Inv c nt z m → ∃ (r : Int32) (m1 m2 : Mem), X9_gift nt z a1 a2 m = some (r, m1) ∧ X10_gift a1 a2 m1 = some (r, m2) ∧ Inv (c + 1) nt z m2
theorem kV_L_73 : wcV RL 73 RX9 yX9_missed cX9_missed 6 (some .int) 1 := ⟨q_ml_L_73, q_im_yX9_missed, q_se_yX9_missed, q_in_X9, q_co_yX9_missed, by decide +kernel⟩
theorem kV_L_76 : wcV RL 76 RX10 yX10_missed cX10_missed 7 (some .int) 1 := ⟨q_ml_L_76, q_im_yX10_missed, q_se_yX10_missed, q_in_X10, q_co_yX10_missed, by decide +kernel⟩
def ob_missed (Inv : Nat → Nat → (Nat → Nat) → Mem → Prop) : Prop := ∀ (c nt : Nat) (z : Nat → Nat) (m : Mem) (a1 : Int32), c ≤ 513 → Inv c nt z m → ∃ (r : Int32) (m1 m2 : Mem), X9_missed nt z a1 m = some (r, m1) ∧ X10_missed a1 m1 = some (r, m2) ∧ Inv (c + 1) nt z m2
theorem kV_L_77 : wcV RL 77 RX9 yX9_walk cX9_walk 4 (some .int) 3 := ⟨q_ml_L_77, q_im_yX9_walk, q_se_yX9_walk, q_in_X9, q_co_yX9_walk, by decide +kernel⟩
theorem kV_L_80 : wcV RL 80 RX10 yX10_walk cX10_walk 4 (some .int) 3 := ⟨q_ml_L_80, q_im_yX10_walk, q_se_yX10_walk, q_in_X10, q_co_yX10_walk, by decide +kernel⟩
def ob_walk (Inv : Nat → Nat → (Nat → Nat) → Mem → Prop) : Prop := ∀ (c nt : Nat) (z : Nat → Nat) (m : Mem) (a1 a2 a3 : Int32), c ≤ 513 → Inv c nt z m → ∃ (r : Int32) (m1 m2 : Mem), X9_walk a1 a2 a3 m = some (r, m1) ∧ X10_walk a1 a2 a3 m1 = some (r, m2) ∧ Inv (c + 1) nt z m2
theorem kV_L_81 : wcV RL 81 RX9 yX9_tells cX9_tells 5 (some .int) 3 := ⟨q_ml_L_81, q_im_yX9_tells, q_se_yX9_tells, q_in_X9, q_co_yX9_tells, by decide +kernel⟩
theorem kV_L_84 : wcV RL 84 RX10 yX10_tells cX10_tells 9 (some .int) 3 := ⟨q_ml_L_84, q_im_yX10_tells, q_se_yX10_tells, q_in_X10, q_co_yX10_tells, by decide +kernel⟩
def ob_tells (Inv : Nat → Nat → (Nat → Nat) → Mem → Prop) : Prop := ∀ (c nt : Nat) (z : Nat → Nat) (m : Mem) (a1 a2 a3 : Int32), c ≤ 513 → Inv c nt z m → ∃ (r : Int32) (m1 m2 : Mem), X9_tells nt z a1 a2 a3 m = some (r, m1) ∧ X10_tells a1 a2 a3 m1 = some (r, m2) ∧ Inv (c + 1) nt z m2
theorem kV_L_85 : wcV RL 85 RX9 yX9_film cX9_film 7 (some .int) 2 := ⟨q_ml_L_85, q_im_yX9_film, q_se_yX9_film, q_in_X9, q_co_yX9_film, by decide +kernel⟩
theorem kV_L_88 : wcV RL 88 RX10 yX10_film cX10_film 5 (some .int) 2 := ⟨q_ml_L_88, q_im_yX10_film, q_se_yX10_film, q_in_X10, q_co_yX10_film, by decide +kernel⟩
def ob_film (Inv : Nat → Nat → (Nat → Nat) → Mem → Prop) : Prop := ∀ (c nt : Nat) (z : Nat → Nat) (m : Mem) (a1 a2 : Int32), c ≤ 513 → Inv c nt z m → ∃ (r : Int32) (m1 m2 : Mem), X9_film nt z a1 a2 m = some (r, m1) ∧ X10_film a1 a2 m1 = some (r, m2) ∧ Inv (c + 1) nt z m2
theorem kV_L_89 : wcV RL 89 RX9 yX9_drawn cX9_drawn 4 (some .int) 1 := ⟨q_ml_L_89, q_im_yX9_drawn, q_se_yX9_drawn, q_in_X9, q_co_yX9_drawn, by decide +kernel⟩
theorem kV_L_92 : wcV RL 92 RX10 yX10_drawn cX10_drawn 2 (some .int) 1 := ⟨q_ml_L_92, q_im_yX10_drawn, q_se_yX10_drawn, q_in_X10, q_co_yX10_drawn, by decide +kernel⟩
def ob_drawn (Inv : Nat → Nat → (Nat → Nat) → Mem → Prop) : Prop := ∀ (c nt : Nat) (z : Nat → Nat) (m : Mem) (a1 : Int32), c ≤ 513 → Inv c nt z m → ∃ (r : Int32) (m1 m2 : Mem), X9_drawn nt z a1 m = some (r, m1) ∧ X10_drawn a1 m1 = some (r, m2) ∧ Inv (c + 1) nt z m2
theorem kV_L_93 : wcV RL 93 RX9 yX9_chance cX9_chance 7 (some .long) 4 := ⟨q_ml_L_93, q_im_yX9_chance, q_se_yX9_chance, q_in_X9, q_co_yX9_chance, by decide +kernel⟩
theorem kV_L_97 : wcV RL 97 RX10 yX10_chance cX10_chance 13 (some .long) 4 := ⟨q_ml_L_97, q_im_yX10_chance, q_se_yX10_chance, q_in_X10, q_co_yX10_chance, by decide +kernel⟩
def ob_chance (Inv : Nat → Nat → (Nat → Nat) → Mem → Prop) : Prop := ∀ (c nt : Nat) (z : Nat → Nat) (m : Mem) (a1 a2 a3 a4 : Int32), c ≤ 513 → Inv c nt z m → ∃ (r : Int64) (m1 m2 : Mem), X9_chance nt z a1 a2 a3 a4 m = some (r, m1) ∧ X10_chance a1 a2 a3 a4 m1 = some (r, m2) ∧ Inv (c + 1) nt z m2
theorem kV_L_98 : wcV RL 98 RX9 yX9_image cX9_image 1 (some .int) 0 := ⟨q_ml_L_98, q_im_yX9_image, q_se_yX9_image, q_in_X9, q_co_yX9_image, by decide +kernel⟩
theorem kV_L_101 : wcV RL 101 RX10 yX10_image cX10_image 2 (some .int) 0 := ⟨q_ml_L_101, q_im_yX10_image, q_se_yX10_image, q_in_X10, q_co_yX10_image, by decide +kernel⟩
def ob_image (Inv : Nat → Nat → (Nat → Nat) → Mem → Prop) : Prop := ∀ (c nt : Nat) (z : Nat → Nat) (m : Mem), c ≤ 513 → Inv c nt z m → ∃ (r : Int32) (m1 m2 : Mem), X9_image  m = some (r, m1) ∧ X10_image  m1 = some (r, m2) ∧ Inv (c + 1) nt z m2
theorem kV_L_102 : wcV RL 102 RX9 yX9_back cX9_back 1 (some .int) 0 := ⟨q_ml_L_102, q_im_yX9_back, q_se_yX9_back, q_in_X9, q_co_yX9_back, by decide +kernel⟩
theorem kV_L_105 : wcV RL 105 RX10 yX10_back cX10_back 2 (some .int) 0 := ⟨q_ml_L_105, q_im_yX10_back, q_se_yX10_back, q_in_X10, q_co_yX10_back, by decide +kernel⟩
def ob_back (Inv : Nat → Nat → (Nat → Nat) → Mem → Prop) : Prop := ∀ (c nt : Nat) (z : Nat → Nat) (m : Mem), c ≤ 513 → Inv c nt z m → ∃ (r : Int32) (m1 m2 : Mem), X9_back  m = some (r, m1) ∧ X10_back  m1 = some (r, m2) ∧ Inv (c + 1) nt z m2
theorem kV_L_106 : wcV RL 106 RX9 yX9_count cX9_count 2 (some .int) 1 := ⟨q_ml_L_106, q_im_yX9_count, q_se_yX9_count, q_in_X9, q_co_yX9_count, by decide +kernel⟩
theorem kV_L_109 : wcV RL 109 RX10 yX10_count cX10_count 4 (some .int) 1 := ⟨q_ml_L_109, q_im_yX10_count, q_se_yX10_count, q_in_X10, q_co_yX10_count, by decide +kernel⟩
def ob_count (Inv : Nat → Nat → (Nat → Nat) → Mem → Prop) : Prop := ∀ (c nt : Nat) (z : Nat → Nat) (m : Mem) (a1 : Int32), c ≤ 513 → Inv c nt z m → ∃ (r : Int32) (m1 m2 : Mem), X9_count a1 m = some (r, m1) ∧ X10_count a1 m1 = some (r, m2) ∧ Inv (c + 1) nt z m2
theorem kV_L_110 : wcV RL 110 RX9 yX9_sheet cX9_sheet 5 (some .int) 3 := ⟨q_ml_L_110, q_im_yX9_sheet, q_se_yX9_sheet, q_in_X9, q_co_yX9_sheet, by decide +kernel⟩
theorem kV_L_113 : wcV RL 113 RX10 yX10_sheet cX10_sheet 5 (some .int) 3 := ⟨q_ml_L_113, q_im_yX10_sheet, q_se_yX10_sheet, q_in_X10, q_co_yX10_sheet, by decide +kernel⟩
def ob_sheet (Inv : Nat → Nat → (Nat → Nat) → Mem → Prop) : Prop := ∀ (c nt : Nat) (z : Nat → Nat) (m : Mem) (a1 a2 a3 : Int32), c ≤ 513 → Inv c nt z m → ∃ (r : Int32) (m1 m2 : Mem), X9_sheet a1 a2 a3 m = some (r, m1) ∧ X10_sheet a1 a2 a3 m1 = some (r, m2) ∧ Inv (c + 1) nt z m2
theorem kV_L_114 : wcV RL 114 RX9 yX9_cell cX9_cell 5 (some .int) 3 := ⟨q_ml_L_114, q_im_yX9_cell, q_se_yX9_cell, q_in_X9, q_co_yX9_cell, by decide +kernel⟩
theorem kV_L_117 : wcV RL 117 RX10 yX10_cell cX10_cell 4 (some .int) 3 := ⟨q_ml_L_117, q_im_yX10_cell, q_se_yX10_cell, q_in_X10, q_co_yX10_cell, by decide +kernel⟩
def ob_cell (Inv : Nat → Nat → (Nat → Nat) → Mem → Prop) : Prop := ∀ (c nt : Nat) (z : Nat → Nat) (m : Mem) (a1 a2 a3 : Int32), c ≤ 513 → Inv c nt z m → ∃ (r : Int32) (m1 m2 : Mem), X9_cell a1 a2 a3 m = some (r, m1) ∧ X10_cell a1 a2 a3 m1 = some (r, m2) ∧ Inv (c + 1) nt z m2
theorem kV_L_118 : wcV RL 118 RX9 yX9_copy cX9_copy 8 (some .int) 5 := ⟨q_ml_L_118, q_im_yX9_copy, q_se_yX9_copy, q_in_X9, q_co_yX9_copy, by decide +kernel⟩
theorem kV_L_122 : wcV RL 122 RX10 yX10_copy cX10_copy 9 (some .int) 5 := ⟨q_ml_L_122, q_im_yX10_copy, q_se_yX10_copy, q_in_X10, q_co_yX10_copy, by decide +kernel⟩
def ob_copy (Inv : Nat → Nat → (Nat → Nat) → Mem → Prop) : Prop := ∀ (c nt : Nat) (z : Nat → Nat) (m : Mem) (a1 a2 a3 a4 a5 : Int32), c ≤ 513 → Inv c nt z m → ∃ (r : Int32) (m1 m2 : Mem), X9_copy a1 a2 a3 a4 a5 m = some (r, m1) ∧ X10_copy a1 a2 a3 a4 a5 m1 = some (r, m2) ∧ Inv (c + 1) nt z m2
theorem kV_L_123 : wcV RL 123 RX9 yX9_people cX9_people 9 (some .int) 4 := ⟨q_ml_L_123, q_im_yX9_people, q_se_yX9_people, q_in_X9, q_co_yX9_people, by decide +kernel⟩
theorem kV_L_127 : wcV RL 127 RX10 yX10_people cX10_people 8 (some .int) 4 := ⟨q_ml_L_127, q_im_yX10_people, q_se_yX10_people, q_in_X10, q_co_yX10_people, by decide +kernel⟩
def ob_people (Inv : Nat → Nat → (Nat → Nat) → Mem → Prop) : Prop := ∀ (c nt : Nat) (z : Nat → Nat) (m : Mem) (a1 a2 a3 a4 : Int32), c ≤ 513 → Inv c nt z m → ∃ (r : Int32) (m1 m2 : Mem), X9_people a1 a2 a3 a4 m = some (r, m1) ∧ X10_people a1 a2 a3 a4 m1 = some (r, m2) ∧ Inv (c + 1) nt z m2
theorem kV_L_128 : wcV RL 128 RX9 yX9_taken cX9_taken 3 (some .int) 2 := ⟨q_ml_L_128, q_im_yX9_taken, q_se_yX9_taken, q_in_X9, q_co_yX9_taken, by decide +kernel⟩
theorem kV_L_131 : wcV RL 131 RX10 yX10_taken cX10_taken 4 (some .int) 2 := ⟨q_ml_L_131, q_im_yX10_taken, q_se_yX10_taken, q_in_X10, q_co_yX10_taken, by decide +kernel⟩
def ob_taken (Inv : Nat → Nat → (Nat → Nat) → Mem → Prop) : Prop := ∀ (c nt : Nat) (z : Nat → Nat) (m : Mem) (a1 a2 : Int32), c ≤ 513 → Inv c nt z m → ∃ (r : Int32) (m1 m2 : Mem), X9_taken a1 a2 m = some (r, m1) ∧ X10_taken a1 a2 m1 = some (r, m2) ∧ Inv (c + 1) nt z m2
def ob_text (Inv : Nat → Nat → (Nat → Nat) → Mem → Prop) : Prop := ∀ (c nt : Nat) (z : Nat → Nat) (m : Mem), c ≤ 513 → Inv c nt z m → (6 ≤ m.1 33 2 ∧ ∃ m2, X10_text m = some (-4, m2) ∧ Inv (c + 1) nt z m2) ∨ (¬ 6 ≤ m.1 33 2 ∧ ∃ (r8 r9 : Int32) (mA : Mem), X3_read m = some ((r8, r9), mA) ∧ ((¬ mA.1 30 2 = -1 ∧ ∃ m2, X10_text mA = some (-100 - mA.1 30 2, m2) ∧ Inv (c + 1) nt z m2) ∨ (mA.1 30 2 = -1 ∧ ∃ mB : Mem, ((¬ mA.1 30 9 < 0 ∧ mA.1 30 9 < 160 ∧ (mA.1 30 9).toNatClampNeg < 160 ∧ X7_init (79 + 3 * nt) (mA.1 30 9).toNatClampNeg r8 r9 (nM (pC (nM (nM mA (79 + 3 * nt)) (79 + 3 * nt + 1)) 32 (79 + 3 * nt + 1) 0 0 (mA.1 30 9).toNatClampNeg) (79 + 3 * nt + 2)) = some mB) ∧ ¬ 6 ≤ mB.1 33 2 ∧ inn (mB.1 33 2) 6 ∧ (mB.1 33 2).toNatClampNeg = nt + 1) ∧ ∃ m2, X10_text (pI mB 33 2 (mB.1 33 2 + 1)) = some (mB.1 33 2, m2) ∧ Inv (c + 1) (nt + 1) (va_up z (nt + 1) (mA.1 30 9).toNatClampNeg) m2)))
def ob_idle (Inv : Nat → Nat → (Nat → Nat) → Mem → Prop) : Prop := ∀ (c nt : Nat) (z : Nat → Nat) (m : Mem), Inv c nt z m → Inv (c + 1) nt z m
/-- what is owed of the pure functions: every call answers alike, and the invariant stays -/
def Obl (Inv : Nat → Nat → (Nat → Nat) → Mem → Prop) : Prop := ob_set Inv ∧ ob_road Inv ∧ ob_person Inv ∧ ob_told Inv ∧ ob_feed Inv ∧ ob_force Inv ∧ ob_pays Inv ∧ ob_trade Inv ∧ ob_round Inv ∧ ob_run Inv ∧ ob_all Inv ∧ ob_soon Inv ∧ ob_gift Inv ∧ ob_missed Inv ∧ ob_walk Inv ∧ ob_tells Inv ∧ ob_film Inv ∧ ob_drawn Inv ∧ ob_chance Inv ∧ ob_image Inv ∧ ob_back Inv ∧ ob_count Inv ∧ ob_sheet Inv ∧ ob_cell Inv ∧ ob_copy Inv ∧ ob_people Inv ∧ ob_taken Inv ∧ ob_text Inv ∧ ob_idle Inv
set_option maxRecDepth 100000 in
set_option maxHeartbeats 8000000 in
theorem law_loop {Γ : Ga} {b0 : Nat} (X : Cx Γ b0 cL_law 4 RL ret room_1) {bs L : Nat} {xs : Nat → Int32} (hL : L ≤ 3072) (hX : ScrOk Γ b0 bs L xs) (hend : ∀ (σ : St) (μ : Mem) (lv : List (Nat × Value)) (cells slots : Nat), cells ≤ 600000 → slots ≤ 7302250 → Go Γ b0 σ cells slots 1112 lv [.int 1] μ) {Inv : Nat → Nat → (Nat → Nat) → Mem → Prop} (O : Obl Inv) : ∀ (n c j : Nat) (ad : Nat → Nat) (nt : Nat) (z : Nat → Nat) (m0 : Mem), Inv c nt z m0 → j = 6 * c → j ≤ L + 6 → L + 1 ≤ j + n → Go Γ b0 (sg ad nt z) (100 + 3 * c) (4000 + 167 * c) 18 [(0, .ref bs), (1, .ref (ad 0)), (2, .ref (ad 63)), (3, .int (nI j))] [] m0 := by
  intro n
  induction n with
  | zero =>
    intro c j ad nt z m0 hI hc hj hn
    have hcc : c ≤ 513 := by omega
    refine g_iload_n X 3 dL_law_18 rfl rfl ?_
    refine g_aload_n X 0 dL_law_19 rfl rfl ?_
    refine g_slen9 X hX dL_law_20 ?_
    refine g_bipush X (v := 6) dL_law_21 (by decide) ?_
    refine g_isub X dL_law_23 ?_
    refine g_icmp_gt X (tgt := 1111) dL_law_24 (by decide) (fun c24 => ?_) (fun c24 => ?_)
    · refine g_iconst X (v := 1) dL_law_1111 (by decide) ?_
      exact hend _ _ _ _ _ (by omega) (by omega)
    · exact absurd (lw_cond hL (by omega) c24) (by omega)
  | succ n ih =>
    intro c j ad nt z m0 hI hc hj hn
    have hcc : c ≤ 513 := by omega
    refine g_iload_n X 3 dL_law_18 rfl rfl ?_
    refine g_aload_n X 0 dL_law_19 rfl rfl ?_
    refine g_slen9 X hX dL_law_20 ?_
    refine g_bipush X (v := 6) dL_law_21 (by decide) ?_
    refine g_isub X dL_law_23 ?_
    refine g_icmp_gt X (tgt := 1111) dL_law_24 (by decide) (fun c24 => ?_) (fun c24 => ?_)
    · refine g_iconst X (v := 1) dL_law_1111 (by decide) ?_
      exact hend _ _ _ _ _ (by omega) (by omega)
    have hj6 : j + 6 ≤ L := lw_cond hL (by omega) c24
    have hq0 : vp_in (nI j) L := vp_in_nI (by omega) (by omega)
    have hq1 : vp_in (nI j + 1) L := lw_in (q := 1) hL (by omega)
    have hq2 : vp_in (nI j + 2) L := lw_in (q := 2) hL (by omega)
    have hq3 : vp_in (nI j + 3) L := lw_in (q := 3) hL (by omega)
    have hq4 : vp_in (nI j + 4) L := lw_in (q := 4) hL (by omega)
    have hq5 : vp_in (nI j + 5) L := lw_in (q := 5) hL (by omega)
    have hs1 : 100 + 3 * c ≤ 600000 := by omega
    have hs2 : 4000 + 167 * c ≤ 7302250 := by omega
    have again : ∀ (ad' : Nat → Nat) (nt' : Nat) (z' : Nat → Nat) (m' : Mem), Inv (c + 1) nt' z' m' → Go Γ b0 (sg ad' nt' z') (100 + 3 * c) (4000 + 167 * c) 1105 [(0, .ref bs), (1, .ref (ad' 0)), (2, .ref (ad' 63)), (3, .int (nI j))] [] m' := by
      intro ad' nt' z' m' hI'
      refine g_iinc X 3 (v := nI (j + 6)) (lv' := [(3, .int (nI (j + 6))), (0, .ref bs), (1, .ref (ad' 0)), (2, .ref (ad' 63))]) dL_law_1105 rfl (nI_add j 6) (by decide) rfl ?_
      refine g_goto X (tgt := 18) dL_law_1108 (by decide) ?_
      refine g_pick [1, 2, 3, 0] (lv' := [(0, .ref bs), (1, .ref (ad' 0)), (2, .ref (ad' 63)), (3, .int (nI (j + 6)))]) rfl ?_
      refine g_widen (k := 100 + 3 * (c + 1)) (n := 4000 + 167 * (c + 1)) (by omega) (by omega) ?_
      exact ih (c + 1) (j + 6) ad' nt' z' m' hI' (by omega) (by omega) (by omega)
    have again3 : ∀ (ad' : Nat → Nat) (nt' : Nat) (z' : Nat → Nat) (m' : Mem), Inv (c + 1) nt' z' m' → Go Γ b0 (sg ad' nt' z') (100 + 3 * c + 3) (4000 + 167 * c + 167) 1105 [(0, .ref bs), (1, .ref (ad' 0)), (2, .ref (ad' 63)), (3, .int (nI j))] [] m' := by
      intro ad' nt' z' m' hI'
      refine g_iinc X 3 (v := nI (j + 6)) (lv' := [(3, .int (nI (j + 6))), (0, .ref bs), (1, .ref (ad' 0)), (2, .ref (ad' 63))]) dL_law_1105 rfl (nI_add j 6) (by decide) rfl ?_
      refine g_goto X (tgt := 18) dL_law_1108 (by decide) ?_
      refine g_pick [1, 2, 3, 0] (lv' := [(0, .ref bs), (1, .ref (ad' 0)), (2, .ref (ad' 63)), (3, .int (nI (j + 6)))]) rfl ?_
      refine g_widen (k := 100 + 3 * (c + 1)) (n := 4000 + 167 * (c + 1)) (by omega) (by omega) ?_
      exact ih (c + 1) (j + 6) ad' nt' z' m' hI' (by omega) (by omega) (by omega)
    refine g_aload_n X 0 dL_law_27 rfl rfl ?_
    refine g_iload_n X 3 dL_law_28 rfl rfl ?_
    refine g_sld X hX dL_law_29 hq0 ?_
    refine g_bipush X (v := 31) dL_law_30 (by decide) ?_
    refine g_iand X dL_law_32 ?_
    generalize (xs (nI j).toNatClampNeg &&& 31) = v
    by_cases c0 : v = (0 : Int32)
    · refine g_tblIn X (tgt := 160) dL_law_33 (by rw [c0]; decide) (by rw [c0]; decide) (off := 127) (by rw [c0]; rfl) (by decide) ?_
      obtain ⟨r, m1, m2, e1, e2, hI2⟩ := O.1 c nt z m0 (xs (nI j + 1).toNatClampNeg) (xs (nI j + 2).toNatClampNeg) (xs (nI j + 3).toNatClampNeg) hcc hI
      refine g_aload_n X 1 dL_law_160 rfl rfl ?_
      refine g_aload_n X 0 dL_law_161 rfl rfl ?_
      refine g_iload_n X 3 dL_law_162 rfl rfl ?_
      refine g_iconst X (v := 1) dL_law_163 (by decide) ?_
      refine g_iadd X dL_law_164 ?_
      refine g_sld X hX dL_law_165 hq1 ?_
      refine g_aload_n X 0 dL_law_166 rfl rfl ?_
      refine g_iload_n X 3 dL_law_167 rfl rfl ?_
      refine g_iconst X (v := 2) dL_law_168 (by decide) ?_
      refine g_iadd X dL_law_169 ?_
      refine g_sld X hX dL_law_170 hq2 ?_
      refine g_aload_n X 0 dL_law_171 rfl rfl ?_
      refine g_iload_n X 3 dL_law_172 rfl rfl ?_
      refine g_iconst X (v := 3) dL_law_173 (by decide) ?_
      refine g_iadd X dL_law_174 ?_
      refine g_sld X hX dL_law_175 hq3 ?_
      refine g_eVI X 0 8 [.int (xs (nI j + 1).toNatClampNeg), .int (xs (nI j + 2).toNatClampNeg), .int (xs (nI j + 3).toNatClampNeg)] kV_L_13 (c_X9_set e1) dL_law_176 rfl rfl (sgN (by decide)) rfl (by decide) rfl rfl ⟨(Nat.le_of_ble_eq_true rfl), (Nat.le_of_ble_eq_true rfl)⟩ ⟨rfl, rfl⟩ ⟨hs1, hs2⟩ (Nat.le_of_ble_eq_true rfl) ?_
      refine g_aload_n X 2 dL_law_179 rfl rfl ?_
      refine g_aload_n X 0 dL_law_180 rfl rfl ?_
      refine g_iload_n X 3 dL_law_181 rfl rfl ?_
      refine g_iconst X (v := 1) dL_law_182 (by decide) ?_
      refine g_iadd X dL_law_183 ?_
      refine g_sld X hX dL_law_184 hq1 ?_
      refine g_aload_n X 0 dL_law_185 rfl rfl ?_
      refine g_iload_n X 3 dL_law_186 rfl rfl ?_
      refine g_iconst X (v := 2) dL_law_187 (by decide) ?_
      refine g_iadd X dL_law_188 ?_
      refine g_sld X hX dL_law_189 hq2 ?_
      refine g_aload_n X 0 dL_law_190 rfl rfl ?_
      refine g_iload_n X 3 dL_law_191 rfl rfl ?_
      refine g_iconst X (v := 3) dL_law_192 (by decide) ?_
      refine g_iadd X dL_law_193 ?_
      refine g_sld X hX dL_law_194 hq3 ?_
      refine g_eVI X 63 9 [.int (xs (nI j + 1).toNatClampNeg), .int (xs (nI j + 2).toNatClampNeg), .int (xs (nI j + 3).toNatClampNeg)] kV_L_17 (c_X10_set e2) dL_law_195 rfl rfl (sgN (by decide)) rfl (by decide) rfl rfl ⟨(Nat.le_of_ble_eq_true rfl), (Nat.le_of_ble_eq_true rfl)⟩ ⟨rfl, rfl⟩ ⟨hs1, hs2⟩ (Nat.le_of_ble_eq_true rfl) ?_
      refine g_icmp_eq X (tgt := 1105) dL_law_198 (by decide) (fun _ => ?_) (fun c9 => absurd rfl c9)
      exact again ad nt z m2 hI2
    by_cases c1 : v = (1 : Int32)
    · refine g_tblIn X (tgt := 203) dL_law_33 (by rw [c1]; decide) (by rw [c1]; decide) (off := 170) (by rw [c1]; rfl) (by decide) ?_
      obtain ⟨r, m1, m2, e1, e2, hI2⟩ := O.2.1 c nt z m0 (xs (nI j + 1).toNatClampNeg) (xs (nI j + 2).toNatClampNeg) (xs (nI j + 3).toNatClampNeg) hcc hI
      refine g_aload_n X 1 dL_law_203 rfl rfl ?_
      refine g_aload_n X 0 dL_law_204 rfl rfl ?_
      refine g_iload_n X 3 dL_law_205 rfl rfl ?_
      refine g_iconst X (v := 1) dL_law_206 (by decide) ?_
      refine g_iadd X dL_law_207 ?_
      refine g_sld X hX dL_law_208 hq1 ?_
      refine g_aload_n X 0 dL_law_209 rfl rfl ?_
      refine g_iload_n X 3 dL_law_210 rfl rfl ?_
      refine g_iconst X (v := 2) dL_law_211 (by decide) ?_
      refine g_iadd X dL_law_212 ?_
      refine g_sld X hX dL_law_213 hq2 ?_
      refine g_aload_n X 0 dL_law_214 rfl rfl ?_
      refine g_iload_n X 3 dL_law_215 rfl rfl ?_
      refine g_iconst X (v := 3) dL_law_216 (by decide) ?_
      refine g_iadd X dL_law_217 ?_
      refine g_sld X hX dL_law_218 hq3 ?_
      refine g_eVI X 0 8 [.int (xs (nI j + 1).toNatClampNeg), .int (xs (nI j + 2).toNatClampNeg), .int (xs (nI j + 3).toNatClampNeg)] kV_L_18 (c_X9_road e1) dL_law_219 rfl rfl (sgN (by decide)) rfl (by decide) rfl rfl ⟨(Nat.le_of_ble_eq_true rfl), (Nat.le_of_ble_eq_true rfl)⟩ ⟨rfl, rfl⟩ ⟨hs1, hs2⟩ (Nat.le_of_ble_eq_true rfl) ?_
      refine g_aload_n X 2 dL_law_222 rfl rfl ?_
      refine g_aload_n X 0 dL_law_223 rfl rfl ?_
      refine g_iload_n X 3 dL_law_224 rfl rfl ?_
      refine g_iconst X (v := 1) dL_law_225 (by decide) ?_
      refine g_iadd X dL_law_226 ?_
      refine g_sld X hX dL_law_227 hq1 ?_
      refine g_aload_n X 0 dL_law_228 rfl rfl ?_
      refine g_iload_n X 3 dL_law_229 rfl rfl ?_
      refine g_iconst X (v := 2) dL_law_230 (by decide) ?_
      refine g_iadd X dL_law_231 ?_
      refine g_sld X hX dL_law_232 hq2 ?_
      refine g_aload_n X 0 dL_law_233 rfl rfl ?_
      refine g_iload_n X 3 dL_law_234 rfl rfl ?_
      refine g_iconst X (v := 3) dL_law_235 (by decide) ?_
      refine g_iadd X dL_law_236 ?_
      refine g_sld X hX dL_law_237 hq3 ?_
      refine g_eVI X 63 9 [.int (xs (nI j + 1).toNatClampNeg), .int (xs (nI j + 2).toNatClampNeg), .int (xs (nI j + 3).toNatClampNeg)] kV_L_21 (c_X10_road e2) dL_law_238 rfl rfl (sgN (by decide)) rfl (by decide) rfl rfl ⟨(Nat.le_of_ble_eq_true rfl), (Nat.le_of_ble_eq_true rfl)⟩ ⟨rfl, rfl⟩ ⟨hs1, hs2⟩ (Nat.le_of_ble_eq_true rfl) ?_
      refine g_icmp_eq X (tgt := 1105) dL_law_241 (by decide) (fun _ => ?_) (fun c9 => absurd rfl c9)
      exact again ad nt z m2 hI2
    by_cases c2 : v = (2 : Int32)
    · refine g_tblIn X (tgt := 246) dL_law_33 (by rw [c2]; decide) (by rw [c2]; decide) (off := 213) (by rw [c2]; rfl) (by decide) ?_
      obtain ⟨r, m1, m2, e1, e2, hI2⟩ := O.2.2.1 c nt z m0 (xs (nI j + 1).toNatClampNeg) (xs (nI j + 2).toNatClampNeg) (xs (nI j + 3).toNatClampNeg) hcc hI
      refine g_aload_n X 1 dL_law_246 rfl rfl ?_
      refine g_aload_n X 0 dL_law_247 rfl rfl ?_
      refine g_iload_n X 3 dL_law_248 rfl rfl ?_
      refine g_iconst X (v := 1) dL_law_249 (by decide) ?_
      refine g_iadd X dL_law_250 ?_
      refine g_sld X hX dL_law_251 hq1 ?_
      refine g_aload_n X 0 dL_law_252 rfl rfl ?_
      refine g_iload_n X 3 dL_law_253 rfl rfl ?_
      refine g_iconst X (v := 2) dL_law_254 (by decide) ?_
      refine g_iadd X dL_law_255 ?_
      refine g_sld X hX dL_law_256 hq2 ?_
      refine g_aload_n X 0 dL_law_257 rfl rfl ?_
      refine g_iload_n X 3 dL_law_258 rfl rfl ?_
      refine g_iconst X (v := 3) dL_law_259 (by decide) ?_
      refine g_iadd X dL_law_260 ?_
      refine g_sld X hX dL_law_261 hq3 ?_
      refine g_eVI X 0 8 [.int (xs (nI j + 1).toNatClampNeg), .int (xs (nI j + 2).toNatClampNeg), .int (xs (nI j + 3).toNatClampNeg)] kV_L_22 (c_X9_person e1) dL_law_262 rfl rfl (sgN (by decide)) rfl (by decide) rfl rfl ⟨(Nat.le_of_ble_eq_true rfl), (Nat.le_of_ble_eq_true rfl)⟩ ⟨rfl, rfl⟩ ⟨hs1, hs2⟩ (Nat.le_of_ble_eq_true rfl) ?_
      refine g_aload_n X 2 dL_law_265 rfl rfl ?_
      refine g_aload_n X 0 dL_law_266 rfl rfl ?_
      refine g_iload_n X 3 dL_law_267 rfl rfl ?_
      refine g_iconst X (v := 1) dL_law_268 (by decide) ?_
      refine g_iadd X dL_law_269 ?_
      refine g_sld X hX dL_law_270 hq1 ?_
      refine g_aload_n X 0 dL_law_271 rfl rfl ?_
      refine g_iload_n X 3 dL_law_272 rfl rfl ?_
      refine g_iconst X (v := 2) dL_law_273 (by decide) ?_
      refine g_iadd X dL_law_274 ?_
      refine g_sld X hX dL_law_275 hq2 ?_
      refine g_aload_n X 0 dL_law_276 rfl rfl ?_
      refine g_iload_n X 3 dL_law_277 rfl rfl ?_
      refine g_iconst X (v := 3) dL_law_278 (by decide) ?_
      refine g_iadd X dL_law_279 ?_
      refine g_sld X hX dL_law_280 hq3 ?_
      refine g_eVI X 63 9 [.int (xs (nI j + 1).toNatClampNeg), .int (xs (nI j + 2).toNatClampNeg), .int (xs (nI j + 3).toNatClampNeg)] kV_L_25 (c_X10_person e2) dL_law_281 rfl rfl (sgN (by decide)) rfl (by decide) rfl rfl ⟨(Nat.le_of_ble_eq_true rfl), (Nat.le_of_ble_eq_true rfl)⟩ ⟨rfl, rfl⟩ ⟨hs1, hs2⟩ (Nat.le_of_ble_eq_true rfl) ?_
      refine g_icmp_eq X (tgt := 1105) dL_law_284 (by decide) (fun _ => ?_) (fun c9 => absurd rfl c9)
      exact again ad nt z m2 hI2
    by_cases c3 : v = (3 : Int32)
    · refine g_tblIn X (tgt := 289) dL_law_33 (by rw [c3]; decide) (by rw [c3]; decide) (off := 256) (by rw [c3]; rfl) (by decide) ?_
      obtain ⟨r, m1, m2, e1, e2, hI2⟩ := O.2.2.2.1 c nt z m0 (xs (nI j + 1).toNatClampNeg) (xs (nI j + 2).toNatClampNeg) hcc hI
      refine g_aload_n X 1 dL_law_289 rfl rfl ?_
      refine g_aload_n X 0 dL_law_290 rfl rfl ?_
      refine g_iload_n X 3 dL_law_291 rfl rfl ?_
      refine g_iconst X (v := 1) dL_law_292 (by decide) ?_
      refine g_iadd X dL_law_293 ?_
      refine g_sld X hX dL_law_294 hq1 ?_
      refine g_aload_n X 0 dL_law_295 rfl rfl ?_
      refine g_iload_n X 3 dL_law_296 rfl rfl ?_
      refine g_iconst X (v := 2) dL_law_297 (by decide) ?_
      refine g_iadd X dL_law_298 ?_
      refine g_sld X hX dL_law_299 hq2 ?_
      refine g_eVI X 0 8 [.int (xs (nI j + 1).toNatClampNeg), .int (xs (nI j + 2).toNatClampNeg)] kV_L_26 (c_X9_told e1) dL_law_300 rfl rfl (sgN (by decide)) rfl (by decide) rfl rfl ⟨(Nat.le_of_ble_eq_true rfl), (Nat.le_of_ble_eq_true rfl)⟩ ⟨rfl, rfl⟩ ⟨hs1, hs2⟩ (Nat.le_of_ble_eq_true rfl) ?_
      refine g_aload_n X 2 dL_law_303 rfl rfl ?_
      refine g_aload_n X 0 dL_law_304 rfl rfl ?_
      refine g_iload_n X 3 dL_law_305 rfl rfl ?_
      refine g_iconst X (v := 1) dL_law_306 (by decide) ?_
      refine g_iadd X dL_law_307 ?_
      refine g_sld X hX dL_law_308 hq1 ?_
      refine g_aload_n X 0 dL_law_309 rfl rfl ?_
      refine g_iload_n X 3 dL_law_310 rfl rfl ?_
      refine g_iconst X (v := 2) dL_law_311 (by decide) ?_
      refine g_iadd X dL_law_312 ?_
      refine g_sld X hX dL_law_313 hq2 ?_
      refine g_eVI X 63 9 [.int (xs (nI j + 1).toNatClampNeg), .int (xs (nI j + 2).toNatClampNeg)] kV_L_30 (c_X10_told e2) dL_law_314 rfl rfl (sgN (by decide)) rfl (by decide) rfl rfl ⟨(Nat.le_of_ble_eq_true rfl), (Nat.le_of_ble_eq_true rfl)⟩ ⟨rfl, rfl⟩ ⟨hs1, hs2⟩ (Nat.le_of_ble_eq_true rfl) ?_
      refine g_icmp_eq X (tgt := 1105) dL_law_317 (by decide) (fun _ => ?_) (fun c9 => absurd rfl c9)
      exact again ad nt z m2 hI2
    by_cases c4 : v = (4 : Int32)
    · refine g_tblIn X (tgt := 322) dL_law_33 (by rw [c4]; decide) (by rw [c4]; decide) (off := 289) (by rw [c4]; rfl) (by decide) ?_
      obtain ⟨r, m1, m2, e1, e2, hI2⟩ := O.2.2.2.2.1 c nt z m0 (xs (nI j + 1).toNatClampNeg) hcc hI
      refine g_aload_n X 1 dL_law_322 rfl rfl ?_
      refine g_aload_n X 0 dL_law_323 rfl rfl ?_
      refine g_iload_n X 3 dL_law_324 rfl rfl ?_
      refine g_iconst X (v := 1) dL_law_325 (by decide) ?_
      refine g_iadd X dL_law_326 ?_
      refine g_sld X hX dL_law_327 hq1 ?_
      refine g_eVI X 0 8 [.int (xs (nI j + 1).toNatClampNeg)] kV_L_31 (c_X9_feed e1) dL_law_328 rfl rfl (sgN (by decide)) rfl (by decide) rfl rfl ⟨(Nat.le_of_ble_eq_true rfl), (Nat.le_of_ble_eq_true rfl)⟩ ⟨rfl, rfl⟩ ⟨hs1, hs2⟩ (Nat.le_of_ble_eq_true rfl) ?_
      refine g_aload_n X 2 dL_law_331 rfl rfl ?_
      refine g_aload_n X 0 dL_law_332 rfl rfl ?_
      refine g_iload_n X 3 dL_law_333 rfl rfl ?_
      refine g_iconst X (v := 1) dL_law_334 (by decide) ?_
      refine g_iadd X dL_law_335 ?_
      refine g_sld X hX dL_law_336 hq1 ?_
      refine g_eVI X 63 9 [.int (xs (nI j + 1).toNatClampNeg)] kV_L_35 (c_X10_feed e2) dL_law_337 rfl rfl (sgN (by decide)) rfl (by decide) rfl rfl ⟨(Nat.le_of_ble_eq_true rfl), (Nat.le_of_ble_eq_true rfl)⟩ ⟨rfl, rfl⟩ ⟨hs1, hs2⟩ (Nat.le_of_ble_eq_true rfl) ?_
      refine g_icmp_eq X (tgt := 1105) dL_law_340 (by decide) (fun _ => ?_) (fun c9 => absurd rfl c9)
      exact again ad nt z m2 hI2
    by_cases c5 : v = (5 : Int32)
    · refine g_tblIn X (tgt := 345) dL_law_33 (by rw [c5]; decide) (by rw [c5]; decide) (off := 312) (by rw [c5]; rfl) (by decide) ?_
      refine g_aload_n X 1 dL_law_345 rfl rfl ?_
      rcases O.2.2.2.2.2.2.2.2.2.2.2.2.2.2.2.2.2.2.2.2.2.2.2.2.2.2.2.1 c nt z m0 hcc hI with ⟨h6, m2, e2, hI2⟩ | ⟨h6, r8, r9, mA, e1, hor⟩
      · refine g_cVI X 0 8 [] kV_L_36 (c_X9_text_full h6) dL_law_346 rfl rfl (sgN (by decide)) rfl (by decide) rfl rfl ⟨(Nat.le_of_ble_eq_true rfl), (Nat.le_of_ble_eq_true rfl)⟩ ⟨by show 100 + 3 * c + 3 ≤ 600000; omega, by show 4000 + 167 * c + 167 ≤ 7302250; omega⟩ (Nat.le_of_ble_eq_true rfl) (fun r' σ' m' hp => ?_)
        obtain ⟨rfl, rfl, rfl⟩ := hp
        refine g_aload_n X 2 dL_law_349 rfl rfl ?_
        refine g_eVI X 63 9 [] kV_L_40 (c_X10_text e2) dL_law_350 rfl rfl (sgN (by decide)) rfl (by decide) rfl rfl ⟨(Nat.le_of_ble_eq_true rfl), (Nat.le_of_ble_eq_true rfl)⟩ ⟨rfl, rfl⟩ ⟨by show 100 + 3 * c + 3 ≤ 600000; omega, by show 4000 + 167 * c + 167 ≤ 7302250; omega⟩ (Nat.le_of_ble_eq_true rfl) ?_
        refine g_icmp_eq X (tgt := 1105) dL_law_353 (by decide) (fun _ => ?_) (fun c9 => absurd rfl c9)
        exact again3 ad nt z m2 hI2
      · rcases hor with ⟨hbad, m2, e2, hI2⟩ | ⟨hok, mB, hT, m2, e2, hI2⟩
        · refine g_cVI X 0 8 [] kV_L_36 (c_X9_text_go (mB := mA) h6 e1 (fun e => absurd e hbad)) dL_law_346 rfl rfl (sgN (by decide)) rfl (by decide) rfl rfl ⟨(Nat.le_of_ble_eq_true rfl), (Nat.le_of_ble_eq_true rfl)⟩ ⟨by show 100 + 3 * c + 3 ≤ 600000; omega, by show 4000 + 167 * c + 167 ≤ 7302250; omega⟩ (Nat.le_of_ble_eq_true rfl) (fun r' σ' m' hp => ?_)
          rcases hp with ⟨-, rfl, rfl, rfl⟩ | ⟨e, -⟩
          · refine g_aload_n X 2 dL_law_349 rfl rfl ?_
            refine g_eVI X 63 9 [] kV_L_40 (c_X10_text e2) dL_law_350 rfl rfl (sgN (by decide)) rfl (by decide) rfl rfl ⟨(Nat.le_of_ble_eq_true rfl), (Nat.le_of_ble_eq_true rfl)⟩ ⟨rfl, rfl⟩ ⟨by show 100 + 3 * c + 3 ≤ 600000; omega, by show 4000 + 167 * c + 167 ≤ 7302250; omega⟩ (Nat.le_of_ble_eq_true rfl) ?_
            refine g_icmp_eq X (tgt := 1105) dL_law_353 (by decide) (fun _ => ?_) (fun c9 => absurd rfl c9)
            exact again3 ad nt z m2 hI2
          · exact absurd e hbad
        · refine g_cVI X 0 8 [] kV_L_36 (c_X9_text_go (mB := mB) h6 e1 (fun _ => hT)) dL_law_346 rfl rfl (sgN (by decide)) rfl (by decide) rfl rfl ⟨(Nat.le_of_ble_eq_true rfl), (Nat.le_of_ble_eq_true rfl)⟩ ⟨by show 100 + 3 * c + 3 ≤ 600000; omega, by show 4000 + 167 * c + 167 ≤ 7302250; omega⟩ (Nat.le_of_ble_eq_true rfl) (fun r' σ' m' hp => ?_)
          rcases hp with ⟨e, -⟩ | ⟨-, rfl, rfl, ad2, hadj, rfl⟩
          · exact absurd hok e
          · rw [← hadj 0 (by decide), ← hadj 63 (by decide)]
            refine g_aload_n X 2 dL_law_349 rfl rfl ?_
            refine g_eVI X 63 9 [] kV_L_40 (c_X10_text e2) dL_law_350 rfl rfl (sgN (by decide)) rfl (by decide) rfl rfl ⟨(Nat.le_of_ble_eq_true rfl), (Nat.le_of_ble_eq_true rfl)⟩ ⟨rfl, rfl⟩ ⟨by show 100 + 3 * c + 3 ≤ 600000; omega, by show 4000 + 167 * c + 167 ≤ 7302250; omega⟩ (Nat.le_of_ble_eq_true rfl) ?_
            refine g_icmp_eq X (tgt := 1105) dL_law_353 (by decide) (fun _ => ?_) (fun c9 => absurd rfl c9)
            exact again3 ad2 _ _ m2 hI2
    by_cases c6 : v = (6 : Int32)
    · refine g_tblIn X (tgt := 358) dL_law_33 (by rw [c6]; decide) (by rw [c6]; decide) (off := 325) (by rw [c6]; rfl) (by decide) ?_
      obtain ⟨r, m1, m2, e1, e2, hI2⟩ := O.2.2.2.2.2.1 c nt z m0 (xs (nI j + 1).toNatClampNeg) hcc hI
      refine g_aload_n X 1 dL_law_358 rfl rfl ?_
      refine g_aload_n X 0 dL_law_359 rfl rfl ?_
      refine g_iload_n X 3 dL_law_360 rfl rfl ?_
      refine g_iconst X (v := 1) dL_law_361 (by decide) ?_
      refine g_iadd X dL_law_362 ?_
      refine g_sld X hX dL_law_363 hq1 ?_
      refine g_eVI X 0 8 [.int (xs (nI j + 1).toNatClampNeg)] kV_L_41 (c_X9_force e1) dL_law_364 rfl rfl (sgN (by decide)) rfl (by decide) rfl rfl ⟨(Nat.le_of_ble_eq_true rfl), (Nat.le_of_ble_eq_true rfl)⟩ ⟨rfl, rfl⟩ ⟨hs1, hs2⟩ (Nat.le_of_ble_eq_true rfl) ?_
      refine g_aload_n X 2 dL_law_367 rfl rfl ?_
      refine g_aload_n X 0 dL_law_368 rfl rfl ?_
      refine g_iload_n X 3 dL_law_369 rfl rfl ?_
      refine g_iconst X (v := 1) dL_law_370 (by decide) ?_
      refine g_iadd X dL_law_371 ?_
      refine g_sld X hX dL_law_372 hq1 ?_
      refine g_eVI X 63 9 [.int (xs (nI j + 1).toNatClampNeg)] kV_L_44 (c_X10_force e2) dL_law_373 rfl rfl (sgN (by decide)) rfl (by decide) rfl rfl ⟨(Nat.le_of_ble_eq_true rfl), (Nat.le_of_ble_eq_true rfl)⟩ ⟨rfl, rfl⟩ ⟨hs1, hs2⟩ (Nat.le_of_ble_eq_true rfl) ?_
      refine g_icmp_eq X (tgt := 1105) dL_law_376 (by decide) (fun _ => ?_) (fun c9 => absurd rfl c9)
      exact again ad nt z m2 hI2
    by_cases c7 : v = (7 : Int32)
    · refine g_tblIn X (tgt := 381) dL_law_33 (by rw [c7]; decide) (by rw [c7]; decide) (off := 348) (by rw [c7]; rfl) (by decide) ?_
      obtain ⟨r, m1, m2, e1, e2, hI2⟩ := O.2.2.2.2.2.2.1 c nt z m0 (xs (nI j + 1).toNatClampNeg) (xs (nI j + 2).toNatClampNeg) (xs (nI j + 3).toNatClampNeg) hcc hI
      refine g_aload_n X 1 dL_law_381 rfl rfl ?_
      refine g_aload_n X 0 dL_law_382 rfl rfl ?_
      refine g_iload_n X 3 dL_law_383 rfl rfl ?_
      refine g_iconst X (v := 1) dL_law_384 (by decide) ?_
      refine g_iadd X dL_law_385 ?_
      refine g_sld X hX dL_law_386 hq1 ?_
      refine g_aload_n X 0 dL_law_387 rfl rfl ?_
      refine g_iload_n X 3 dL_law_388 rfl rfl ?_
      refine g_iconst X (v := 2) dL_law_389 (by decide) ?_
      refine g_iadd X dL_law_390 ?_
      refine g_sld X hX dL_law_391 hq2 ?_
      refine g_aload_n X 0 dL_law_392 rfl rfl ?_
      refine g_iload_n X 3 dL_law_393 rfl rfl ?_
      refine g_iconst X (v := 3) dL_law_394 (by decide) ?_
      refine g_iadd X dL_law_395 ?_
      refine g_sld X hX dL_law_396 hq3 ?_
      refine g_eVI X 0 8 [.int (xs (nI j + 1).toNatClampNeg), .int (xs (nI j + 2).toNatClampNeg), .int (xs (nI j + 3).toNatClampNeg)] kV_L_45 (c_X9_pays e1) dL_law_397 rfl rfl (sgN (by decide)) rfl (by decide) rfl rfl ⟨(Nat.le_of_ble_eq_true rfl), (Nat.le_of_ble_eq_true rfl)⟩ ⟨rfl, rfl⟩ ⟨hs1, hs2⟩ (Nat.le_of_ble_eq_true rfl) ?_
      refine g_aload_n X 2 dL_law_400 rfl rfl ?_
      refine g_aload_n X 0 dL_law_401 rfl rfl ?_
      refine g_iload_n X 3 dL_law_402 rfl rfl ?_
      refine g_iconst X (v := 1) dL_law_403 (by decide) ?_
      refine g_iadd X dL_law_404 ?_
      refine g_sld X hX dL_law_405 hq1 ?_
      refine g_aload_n X 0 dL_law_406 rfl rfl ?_
      refine g_iload_n X 3 dL_law_407 rfl rfl ?_
      refine g_iconst X (v := 2) dL_law_408 (by decide) ?_
      refine g_iadd X dL_law_409 ?_
      refine g_sld X hX dL_law_410 hq2 ?_
      refine g_aload_n X 0 dL_law_411 rfl rfl ?_
      refine g_iload_n X 3 dL_law_412 rfl rfl ?_
      refine g_iconst X (v := 3) dL_law_413 (by decide) ?_
      refine g_iadd X dL_law_414 ?_
      refine g_sld X hX dL_law_415 hq3 ?_
      refine g_eVI X 63 9 [.int (xs (nI j + 1).toNatClampNeg), .int (xs (nI j + 2).toNatClampNeg), .int (xs (nI j + 3).toNatClampNeg)] kV_L_48 (c_X10_pays e2) dL_law_416 rfl rfl (sgN (by decide)) rfl (by decide) rfl rfl ⟨(Nat.le_of_ble_eq_true rfl), (Nat.le_of_ble_eq_true rfl)⟩ ⟨rfl, rfl⟩ ⟨hs1, hs2⟩ (Nat.le_of_ble_eq_true rfl) ?_
      refine g_icmp_eq X (tgt := 1105) dL_law_419 (by decide) (fun _ => ?_) (fun c9 => absurd rfl c9)
      exact again ad nt z m2 hI2
    by_cases c8 : v = (8 : Int32)
    · refine g_tblIn X (tgt := 424) dL_law_33 (by rw [c8]; decide) (by rw [c8]; decide) (off := 391) (by rw [c8]; rfl) (by decide) ?_
      obtain ⟨r, m1, m2, e1, e2, hI2⟩ := O.2.2.2.2.2.2.2.1 c nt z m0 (xs (nI j + 1).toNatClampNeg) (xs (nI j + 2).toNatClampNeg) (xs (nI j + 3).toNatClampNeg) hcc hI
      refine g_aload_n X 1 dL_law_424 rfl rfl ?_
      refine g_aload_n X 0 dL_law_425 rfl rfl ?_
      refine g_iload_n X 3 dL_law_426 rfl rfl ?_
      refine g_iconst X (v := 1) dL_law_427 (by decide) ?_
      refine g_iadd X dL_law_428 ?_
      refine g_sld X hX dL_law_429 hq1 ?_
      refine g_aload_n X 0 dL_law_430 rfl rfl ?_
      refine g_iload_n X 3 dL_law_431 rfl rfl ?_
      refine g_iconst X (v := 2) dL_law_432 (by decide) ?_
      refine g_iadd X dL_law_433 ?_
      refine g_sld X hX dL_law_434 hq2 ?_
      refine g_aload_n X 0 dL_law_435 rfl rfl ?_
      refine g_iload_n X 3 dL_law_436 rfl rfl ?_
      refine g_iconst X (v := 3) dL_law_437 (by decide) ?_
      refine g_iadd X dL_law_438 ?_
      refine g_sld X hX dL_law_439 hq3 ?_
      refine g_eVI X 0 8 [.int (xs (nI j + 1).toNatClampNeg), .int (xs (nI j + 2).toNatClampNeg), .int (xs (nI j + 3).toNatClampNeg)] kV_L_49 (c_X9_trade e1) dL_law_440 rfl rfl (sgN (by decide)) rfl (by decide) rfl rfl ⟨(Nat.le_of_ble_eq_true rfl), (Nat.le_of_ble_eq_true rfl)⟩ ⟨rfl, rfl⟩ ⟨hs1, hs2⟩ (Nat.le_of_ble_eq_true rfl) ?_
      refine g_aload_n X 2 dL_law_443 rfl rfl ?_
      refine g_aload_n X 0 dL_law_444 rfl rfl ?_
      refine g_iload_n X 3 dL_law_445 rfl rfl ?_
      refine g_iconst X (v := 1) dL_law_446 (by decide) ?_
      refine g_iadd X dL_law_447 ?_
      refine g_sld X hX dL_law_448 hq1 ?_
      refine g_aload_n X 0 dL_law_449 rfl rfl ?_
      refine g_iload_n X 3 dL_law_450 rfl rfl ?_
      refine g_iconst X (v := 2) dL_law_451 (by decide) ?_
      refine g_iadd X dL_law_452 ?_
      refine g_sld X hX dL_law_453 hq2 ?_
      refine g_aload_n X 0 dL_law_454 rfl rfl ?_
      refine g_iload_n X 3 dL_law_455 rfl rfl ?_
      refine g_iconst X (v := 3) dL_law_456 (by decide) ?_
      refine g_iadd X dL_law_457 ?_
      refine g_sld X hX dL_law_458 hq3 ?_
      refine g_eVI X 63 9 [.int (xs (nI j + 1).toNatClampNeg), .int (xs (nI j + 2).toNatClampNeg), .int (xs (nI j + 3).toNatClampNeg)] kV_L_52 (c_X10_trade e2) dL_law_459 rfl rfl (sgN (by decide)) rfl (by decide) rfl rfl ⟨(Nat.le_of_ble_eq_true rfl), (Nat.le_of_ble_eq_true rfl)⟩ ⟨rfl, rfl⟩ ⟨hs1, hs2⟩ (Nat.le_of_ble_eq_true rfl) ?_
      refine g_icmp_eq X (tgt := 1105) dL_law_462 (by decide) (fun _ => ?_) (fun c9 => absurd rfl c9)
      exact again ad nt z m2 hI2
    by_cases c9 : v = (9 : Int32)
    · refine g_tblIn X (tgt := 467) dL_law_33 (by rw [c9]; decide) (by rw [c9]; decide) (off := 434) (by rw [c9]; rfl) (by decide) ?_
      obtain ⟨r, m1, m2, e1, e2, hI2⟩ := O.2.2.2.2.2.2.2.2.1 c nt z m0 hcc hI
      refine g_aload_n X 1 dL_law_467 rfl rfl ?_
      refine g_eVI X 0 8 [] kV_L_53 (c_X9_round e1) dL_law_468 rfl rfl (sgN (by decide)) rfl (by decide) rfl rfl ⟨(Nat.le_of_ble_eq_true rfl), (Nat.le_of_ble_eq_true rfl)⟩ ⟨rfl, rfl⟩ ⟨hs1, hs2⟩ (Nat.le_of_ble_eq_true rfl) ?_
      refine g_aload_n X 2 dL_law_471 rfl rfl ?_
      refine g_eVI X 63 9 [] kV_L_56 (c_X10_round e2) dL_law_472 rfl rfl (sgN (by decide)) rfl (by decide) rfl rfl ⟨(Nat.le_of_ble_eq_true rfl), (Nat.le_of_ble_eq_true rfl)⟩ ⟨rfl, rfl⟩ ⟨hs1, hs2⟩ (Nat.le_of_ble_eq_true rfl) ?_
      refine g_icmp_eq X (tgt := 1105) dL_law_475 (by decide) (fun _ => ?_) (fun c9 => absurd rfl c9)
      exact again ad nt z m2 hI2
    by_cases c10 : v = (10 : Int32)
    · refine g_tblIn X (tgt := 480) dL_law_33 (by rw [c10]; decide) (by rw [c10]; decide) (off := 447) (by rw [c10]; rfl) (by decide) ?_
      obtain ⟨r, m1, m2, e1, e2, hI2⟩ := O.2.2.2.2.2.2.2.2.2.1 c nt z m0 (xs (nI j + 1).toNatClampNeg) (xs (nI j + 2).toNatClampNeg) hcc hI
      refine g_aload_n X 1 dL_law_480 rfl rfl ?_
      refine g_aload_n X 0 dL_law_481 rfl rfl ?_
      refine g_iload_n X 3 dL_law_482 rfl rfl ?_
      refine g_iconst X (v := 1) dL_law_483 (by decide) ?_
      refine g_iadd X dL_law_484 ?_
      refine g_sld X hX dL_law_485 hq1 ?_
      refine g_aload_n X 0 dL_law_486 rfl rfl ?_
      refine g_iload_n X 3 dL_law_487 rfl rfl ?_
      refine g_iconst X (v := 2) dL_law_488 (by decide) ?_
      refine g_iadd X dL_law_489 ?_
      refine g_sld X hX dL_law_490 hq2 ?_
      refine g_eVI X 0 8 [.int (xs (nI j + 1).toNatClampNeg), .int (xs (nI j + 2).toNatClampNeg)] kV_L_57 (c_X9_run e1) dL_law_491 rfl rfl (sgN (by decide)) rfl (by decide) rfl rfl ⟨(Nat.le_of_ble_eq_true rfl), (Nat.le_of_ble_eq_true rfl)⟩ ⟨rfl, rfl⟩ ⟨hs1, hs2⟩ (Nat.le_of_ble_eq_true rfl) ?_
      refine g_aload_n X 2 dL_law_494 rfl rfl ?_
      refine g_aload_n X 0 dL_law_495 rfl rfl ?_
      refine g_iload_n X 3 dL_law_496 rfl rfl ?_
      refine g_iconst X (v := 1) dL_law_497 (by decide) ?_
      refine g_iadd X dL_law_498 ?_
      refine g_sld X hX dL_law_499 hq1 ?_
      refine g_aload_n X 0 dL_law_500 rfl rfl ?_
      refine g_iload_n X 3 dL_law_501 rfl rfl ?_
      refine g_iconst X (v := 2) dL_law_502 (by decide) ?_
      refine g_iadd X dL_law_503 ?_
      refine g_sld X hX dL_law_504 hq2 ?_
      refine g_eVI X 63 9 [.int (xs (nI j + 1).toNatClampNeg), .int (xs (nI j + 2).toNatClampNeg)] kV_L_60 (c_X10_run e2) dL_law_505 rfl rfl (sgN (by decide)) rfl (by decide) rfl rfl ⟨(Nat.le_of_ble_eq_true rfl), (Nat.le_of_ble_eq_true rfl)⟩ ⟨rfl, rfl⟩ ⟨hs1, hs2⟩ (Nat.le_of_ble_eq_true rfl) ?_
      refine g_icmp_eq X (tgt := 1105) dL_law_508 (by decide) (fun _ => ?_) (fun c9 => absurd rfl c9)
      exact again ad nt z m2 hI2
    by_cases c11 : v = (11 : Int32)
    · refine g_tblIn X (tgt := 513) dL_law_33 (by rw [c11]; decide) (by rw [c11]; decide) (off := 480) (by rw [c11]; rfl) (by decide) ?_
      obtain ⟨r, m1, m2, e1, e2, hI2⟩ := O.2.2.2.2.2.2.2.2.2.2.1 c nt z m0 (xs (nI j + 1).toNatClampNeg) hcc hI
      refine g_aload_n X 1 dL_law_513 rfl rfl ?_
      refine g_aload_n X 0 dL_law_514 rfl rfl ?_
      refine g_iload_n X 3 dL_law_515 rfl rfl ?_
      refine g_iconst X (v := 1) dL_law_516 (by decide) ?_
      refine g_iadd X dL_law_517 ?_
      refine g_sld X hX dL_law_518 hq1 ?_
      refine g_eVI X 0 8 [.int (xs (nI j + 1).toNatClampNeg)] kV_L_61 (c_X9_all e1) dL_law_519 rfl rfl (sgN (by decide)) rfl (by decide) rfl rfl ⟨(Nat.le_of_ble_eq_true rfl), (Nat.le_of_ble_eq_true rfl)⟩ ⟨rfl, rfl⟩ ⟨hs1, hs2⟩ (Nat.le_of_ble_eq_true rfl) ?_
      refine g_aload_n X 2 dL_law_522 rfl rfl ?_
      refine g_aload_n X 0 dL_law_523 rfl rfl ?_
      refine g_iload_n X 3 dL_law_524 rfl rfl ?_
      refine g_iconst X (v := 1) dL_law_525 (by decide) ?_
      refine g_iadd X dL_law_526 ?_
      refine g_sld X hX dL_law_527 hq1 ?_
      refine g_eVI X 63 9 [.int (xs (nI j + 1).toNatClampNeg)] kV_L_64 (c_X10_all e2) dL_law_528 rfl rfl (sgN (by decide)) rfl (by decide) rfl rfl ⟨(Nat.le_of_ble_eq_true rfl), (Nat.le_of_ble_eq_true rfl)⟩ ⟨rfl, rfl⟩ ⟨hs1, hs2⟩ (Nat.le_of_ble_eq_true rfl) ?_
      refine g_icmp_eq X (tgt := 1105) dL_law_531 (by decide) (fun _ => ?_) (fun c9 => absurd rfl c9)
      exact again ad nt z m2 hI2
    by_cases c12 : v = (12 : Int32)
    · refine g_tblIn X (tgt := 536) dL_law_33 (by rw [c12]; decide) (by rw [c12]; decide) (off := 503) (by rw [c12]; rfl) (by decide) ?_
      obtain ⟨r, m1, m2, e1, e2, hI2⟩ := O.2.2.2.2.2.2.2.2.2.2.2.1 c nt z m0 (xs (nI j + 1).toNatClampNeg) (xs (nI j + 2).toNatClampNeg) hcc hI
      refine g_aload_n X 1 dL_law_536 rfl rfl ?_
      refine g_aload_n X 0 dL_law_537 rfl rfl ?_
      refine g_iload_n X 3 dL_law_538 rfl rfl ?_
      refine g_iconst X (v := 1) dL_law_539 (by decide) ?_
      refine g_iadd X dL_law_540 ?_
      refine g_sld X hX dL_law_541 hq1 ?_
      refine g_aload_n X 0 dL_law_542 rfl rfl ?_
      refine g_iload_n X 3 dL_law_543 rfl rfl ?_
      refine g_iconst X (v := 2) dL_law_544 (by decide) ?_
      refine g_iadd X dL_law_545 ?_
      refine g_sld X hX dL_law_546 hq2 ?_
      refine g_eVI X 0 8 [.int (xs (nI j + 1).toNatClampNeg), .int (xs (nI j + 2).toNatClampNeg)] kV_L_65 (c_X9_soon e1) dL_law_547 rfl rfl (sgN (by decide)) rfl (by decide) rfl rfl ⟨(Nat.le_of_ble_eq_true rfl), (Nat.le_of_ble_eq_true rfl)⟩ ⟨rfl, rfl⟩ ⟨hs1, hs2⟩ (Nat.le_of_ble_eq_true rfl) ?_
      refine g_aload_n X 2 dL_law_550 rfl rfl ?_
      refine g_aload_n X 0 dL_law_551 rfl rfl ?_
      refine g_iload_n X 3 dL_law_552 rfl rfl ?_
      refine g_iconst X (v := 1) dL_law_553 (by decide) ?_
      refine g_iadd X dL_law_554 ?_
      refine g_sld X hX dL_law_555 hq1 ?_
      refine g_aload_n X 0 dL_law_556 rfl rfl ?_
      refine g_iload_n X 3 dL_law_557 rfl rfl ?_
      refine g_iconst X (v := 2) dL_law_558 (by decide) ?_
      refine g_iadd X dL_law_559 ?_
      refine g_sld X hX dL_law_560 hq2 ?_
      refine g_eVI X 63 9 [.int (xs (nI j + 1).toNatClampNeg), .int (xs (nI j + 2).toNatClampNeg)] kV_L_68 (c_X10_soon e2) dL_law_561 rfl rfl (sgN (by decide)) rfl (by decide) rfl rfl ⟨(Nat.le_of_ble_eq_true rfl), (Nat.le_of_ble_eq_true rfl)⟩ ⟨rfl, rfl⟩ ⟨hs1, hs2⟩ (Nat.le_of_ble_eq_true rfl) ?_
      refine g_icmp_eq X (tgt := 1105) dL_law_564 (by decide) (fun _ => ?_) (fun c9 => absurd rfl c9)
      exact again ad nt z m2 hI2
    by_cases c13 : v = (13 : Int32)
    · refine g_tblIn X (tgt := 569) dL_law_33 (by rw [c13]; decide) (by rw [c13]; decide) (off := 536) (by rw [c13]; rfl) (by decide) ?_
      obtain ⟨r, m1, m2, e1, e2, hI2⟩ := O.2.2.2.2.2.2.2.2.2.2.2.2.1 c nt z m0 (xs (nI j + 1).toNatClampNeg) (xs (nI j + 2).toNatClampNeg) hcc hI
      refine g_aload_n X 1 dL_law_569 rfl rfl ?_
      refine g_aload_n X 0 dL_law_570 rfl rfl ?_
      refine g_iload_n X 3 dL_law_571 rfl rfl ?_
      refine g_iconst X (v := 1) dL_law_572 (by decide) ?_
      refine g_iadd X dL_law_573 ?_
      refine g_sld X hX dL_law_574 hq1 ?_
      refine g_aload_n X 0 dL_law_575 rfl rfl ?_
      refine g_iload_n X 3 dL_law_576 rfl rfl ?_
      refine g_iconst X (v := 2) dL_law_577 (by decide) ?_
      refine g_iadd X dL_law_578 ?_
      refine g_sld X hX dL_law_579 hq2 ?_
      refine g_eVI X 0 8 [.int (xs (nI j + 1).toNatClampNeg), .int (xs (nI j + 2).toNatClampNeg)] kV_L_69 (c_X9_gift e1) dL_law_580 rfl rfl (sgN (by decide)) rfl (by decide) rfl rfl ⟨(Nat.le_of_ble_eq_true rfl), (Nat.le_of_ble_eq_true rfl)⟩ ⟨rfl, rfl⟩ ⟨hs1, hs2⟩ (Nat.le_of_ble_eq_true rfl) ?_
      refine g_aload_n X 2 dL_law_583 rfl rfl ?_
      refine g_aload_n X 0 dL_law_584 rfl rfl ?_
      refine g_iload_n X 3 dL_law_585 rfl rfl ?_
      refine g_iconst X (v := 1) dL_law_586 (by decide) ?_
      refine g_iadd X dL_law_587 ?_
      refine g_sld X hX dL_law_588 hq1 ?_
      refine g_aload_n X 0 dL_law_589 rfl rfl ?_
      refine g_iload_n X 3 dL_law_590 rfl rfl ?_
      refine g_iconst X (v := 2) dL_law_591 (by decide) ?_
      refine g_iadd X dL_law_592 ?_
      refine g_sld X hX dL_law_593 hq2 ?_
      refine g_eVI X 63 9 [.int (xs (nI j + 1).toNatClampNeg), .int (xs (nI j + 2).toNatClampNeg)] kV_L_72 (c_X10_gift e2) dL_law_594 rfl rfl (sgN (by decide)) rfl (by decide) rfl rfl ⟨(Nat.le_of_ble_eq_true rfl), (Nat.le_of_ble_eq_true rfl)⟩ ⟨rfl, rfl⟩ ⟨hs1, hs2⟩ (Nat.le_of_ble_eq_true rfl) ?_
      refine g_icmp_eq X (tgt := 1105) dL_law_597 (by decide) (fun _ => ?_) (fun c9 => absurd rfl c9)
      exact again ad nt z m2 hI2
    by_cases c14 : v = (14 : Int32)
    · refine g_tblIn X (tgt := 602) dL_law_33 (by rw [c14]; decide) (by rw [c14]; decide) (off := 569) (by rw [c14]; rfl) (by decide) ?_
      obtain ⟨r, m1, m2, e1, e2, hI2⟩ := O.2.2.2.2.2.2.2.2.2.2.2.2.2.1 c nt z m0 (xs (nI j + 1).toNatClampNeg) hcc hI
      refine g_aload_n X 1 dL_law_602 rfl rfl ?_
      refine g_aload_n X 0 dL_law_603 rfl rfl ?_
      refine g_iload_n X 3 dL_law_604 rfl rfl ?_
      refine g_iconst X (v := 1) dL_law_605 (by decide) ?_
      refine g_iadd X dL_law_606 ?_
      refine g_sld X hX dL_law_607 hq1 ?_
      refine g_eVI X 0 8 [.int (xs (nI j + 1).toNatClampNeg)] kV_L_73 (c_X9_missed e1) dL_law_608 rfl rfl (sgN (by decide)) rfl (by decide) rfl rfl ⟨(Nat.le_of_ble_eq_true rfl), (Nat.le_of_ble_eq_true rfl)⟩ ⟨rfl, rfl⟩ ⟨hs1, hs2⟩ (Nat.le_of_ble_eq_true rfl) ?_
      refine g_aload_n X 2 dL_law_611 rfl rfl ?_
      refine g_aload_n X 0 dL_law_612 rfl rfl ?_
      refine g_iload_n X 3 dL_law_613 rfl rfl ?_
      refine g_iconst X (v := 1) dL_law_614 (by decide) ?_
      refine g_iadd X dL_law_615 ?_
      refine g_sld X hX dL_law_616 hq1 ?_
      refine g_eVI X 63 9 [.int (xs (nI j + 1).toNatClampNeg)] kV_L_76 (c_X10_missed e2) dL_law_617 rfl rfl (sgN (by decide)) rfl (by decide) rfl rfl ⟨(Nat.le_of_ble_eq_true rfl), (Nat.le_of_ble_eq_true rfl)⟩ ⟨rfl, rfl⟩ ⟨hs1, hs2⟩ (Nat.le_of_ble_eq_true rfl) ?_
      refine g_icmp_eq X (tgt := 1105) dL_law_620 (by decide) (fun _ => ?_) (fun c9 => absurd rfl c9)
      exact again ad nt z m2 hI2
    by_cases c15 : v = (15 : Int32)
    · refine g_tblIn X (tgt := 625) dL_law_33 (by rw [c15]; decide) (by rw [c15]; decide) (off := 592) (by rw [c15]; rfl) (by decide) ?_
      obtain ⟨r, m1, m2, e1, e2, hI2⟩ := O.2.2.2.2.2.2.2.2.2.2.2.2.2.2.1 c nt z m0 (xs (nI j + 1).toNatClampNeg) (xs (nI j + 2).toNatClampNeg) (xs (nI j + 3).toNatClampNeg) hcc hI
      refine g_aload_n X 1 dL_law_625 rfl rfl ?_
      refine g_aload_n X 0 dL_law_626 rfl rfl ?_
      refine g_iload_n X 3 dL_law_627 rfl rfl ?_
      refine g_iconst X (v := 1) dL_law_628 (by decide) ?_
      refine g_iadd X dL_law_629 ?_
      refine g_sld X hX dL_law_630 hq1 ?_
      refine g_aload_n X 0 dL_law_631 rfl rfl ?_
      refine g_iload_n X 3 dL_law_632 rfl rfl ?_
      refine g_iconst X (v := 2) dL_law_633 (by decide) ?_
      refine g_iadd X dL_law_634 ?_
      refine g_sld X hX dL_law_635 hq2 ?_
      refine g_aload_n X 0 dL_law_636 rfl rfl ?_
      refine g_iload_n X 3 dL_law_637 rfl rfl ?_
      refine g_iconst X (v := 3) dL_law_638 (by decide) ?_
      refine g_iadd X dL_law_639 ?_
      refine g_sld X hX dL_law_640 hq3 ?_
      refine g_eVI X 0 8 [.int (xs (nI j + 1).toNatClampNeg), .int (xs (nI j + 2).toNatClampNeg), .int (xs (nI j + 3).toNatClampNeg)] kV_L_77 (c_X9_walk e1) dL_law_641 rfl rfl (sgN (by decide)) rfl (by decide) rfl rfl ⟨(Nat.le_of_ble_eq_true rfl), (Nat.le_of_ble_eq_true rfl)⟩ ⟨rfl, rfl⟩ ⟨hs1, hs2⟩ (Nat.le_of_ble_eq_true rfl) ?_
      refine g_aload_n X 2 dL_law_644 rfl rfl ?_
      refine g_aload_n X 0 dL_law_645 rfl rfl ?_
      refine g_iload_n X 3 dL_law_646 rfl rfl ?_
      refine g_iconst X (v := 1) dL_law_647 (by decide) ?_
      refine g_iadd X dL_law_648 ?_
      refine g_sld X hX dL_law_649 hq1 ?_
      refine g_aload_n X 0 dL_law_650 rfl rfl ?_
      refine g_iload_n X 3 dL_law_651 rfl rfl ?_
      refine g_iconst X (v := 2) dL_law_652 (by decide) ?_
      refine g_iadd X dL_law_653 ?_
      refine g_sld X hX dL_law_654 hq2 ?_
      refine g_aload_n X 0 dL_law_655 rfl rfl ?_
      refine g_iload_n X 3 dL_law_656 rfl rfl ?_
      refine g_iconst X (v := 3) dL_law_657 (by decide) ?_
      refine g_iadd X dL_law_658 ?_
      refine g_sld X hX dL_law_659 hq3 ?_
      refine g_eVI X 63 9 [.int (xs (nI j + 1).toNatClampNeg), .int (xs (nI j + 2).toNatClampNeg), .int (xs (nI j + 3).toNatClampNeg)] kV_L_80 (c_X10_walk e2) dL_law_660 rfl rfl (sgN (by decide)) rfl (by decide) rfl rfl ⟨(Nat.le_of_ble_eq_true rfl), (Nat.le_of_ble_eq_true rfl)⟩ ⟨rfl, rfl⟩ ⟨hs1, hs2⟩ (Nat.le_of_ble_eq_true rfl) ?_
      refine g_icmp_eq X (tgt := 1105) dL_law_663 (by decide) (fun _ => ?_) (fun c9 => absurd rfl c9)
      exact again ad nt z m2 hI2
    by_cases c16 : v = (16 : Int32)
    · refine g_tblIn X (tgt := 668) dL_law_33 (by rw [c16]; decide) (by rw [c16]; decide) (off := 635) (by rw [c16]; rfl) (by decide) ?_
      obtain ⟨r, m1, m2, e1, e2, hI2⟩ := O.2.2.2.2.2.2.2.2.2.2.2.2.2.2.2.1 c nt z m0 (xs (nI j + 1).toNatClampNeg) (xs (nI j + 2).toNatClampNeg) (xs (nI j + 3).toNatClampNeg) hcc hI
      refine g_aload_n X 1 dL_law_668 rfl rfl ?_
      refine g_aload_n X 0 dL_law_669 rfl rfl ?_
      refine g_iload_n X 3 dL_law_670 rfl rfl ?_
      refine g_iconst X (v := 1) dL_law_671 (by decide) ?_
      refine g_iadd X dL_law_672 ?_
      refine g_sld X hX dL_law_673 hq1 ?_
      refine g_aload_n X 0 dL_law_674 rfl rfl ?_
      refine g_iload_n X 3 dL_law_675 rfl rfl ?_
      refine g_iconst X (v := 2) dL_law_676 (by decide) ?_
      refine g_iadd X dL_law_677 ?_
      refine g_sld X hX dL_law_678 hq2 ?_
      refine g_aload_n X 0 dL_law_679 rfl rfl ?_
      refine g_iload_n X 3 dL_law_680 rfl rfl ?_
      refine g_iconst X (v := 3) dL_law_681 (by decide) ?_
      refine g_iadd X dL_law_682 ?_
      refine g_sld X hX dL_law_683 hq3 ?_
      refine g_eVI X 0 8 [.int (xs (nI j + 1).toNatClampNeg), .int (xs (nI j + 2).toNatClampNeg), .int (xs (nI j + 3).toNatClampNeg)] kV_L_81 (c_X9_tells e1) dL_law_684 rfl rfl (sgN (by decide)) rfl (by decide) rfl rfl ⟨(Nat.le_of_ble_eq_true rfl), (Nat.le_of_ble_eq_true rfl)⟩ ⟨rfl, rfl⟩ ⟨hs1, hs2⟩ (Nat.le_of_ble_eq_true rfl) ?_
      refine g_aload_n X 2 dL_law_687 rfl rfl ?_
      refine g_aload_n X 0 dL_law_688 rfl rfl ?_
      refine g_iload_n X 3 dL_law_689 rfl rfl ?_
      refine g_iconst X (v := 1) dL_law_690 (by decide) ?_
      refine g_iadd X dL_law_691 ?_
      refine g_sld X hX dL_law_692 hq1 ?_
      refine g_aload_n X 0 dL_law_693 rfl rfl ?_
      refine g_iload_n X 3 dL_law_694 rfl rfl ?_
      refine g_iconst X (v := 2) dL_law_695 (by decide) ?_
      refine g_iadd X dL_law_696 ?_
      refine g_sld X hX dL_law_697 hq2 ?_
      refine g_aload_n X 0 dL_law_698 rfl rfl ?_
      refine g_iload_n X 3 dL_law_699 rfl rfl ?_
      refine g_iconst X (v := 3) dL_law_700 (by decide) ?_
      refine g_iadd X dL_law_701 ?_
      refine g_sld X hX dL_law_702 hq3 ?_
      refine g_eVI X 63 9 [.int (xs (nI j + 1).toNatClampNeg), .int (xs (nI j + 2).toNatClampNeg), .int (xs (nI j + 3).toNatClampNeg)] kV_L_84 (c_X10_tells e2) dL_law_703 rfl rfl (sgN (by decide)) rfl (by decide) rfl rfl ⟨(Nat.le_of_ble_eq_true rfl), (Nat.le_of_ble_eq_true rfl)⟩ ⟨rfl, rfl⟩ ⟨hs1, hs2⟩ (Nat.le_of_ble_eq_true rfl) ?_
      refine g_icmp_eq X (tgt := 1105) dL_law_706 (by decide) (fun _ => ?_) (fun c9 => absurd rfl c9)
      exact again ad nt z m2 hI2
    by_cases c17 : v = (17 : Int32)
    · refine g_tblIn X (tgt := 711) dL_law_33 (by rw [c17]; decide) (by rw [c17]; decide) (off := 678) (by rw [c17]; rfl) (by decide) ?_
      obtain ⟨r, m1, m2, e1, e2, hI2⟩ := O.2.2.2.2.2.2.2.2.2.2.2.2.2.2.2.2.1 c nt z m0 (xs (nI j + 1).toNatClampNeg) (xs (nI j + 2).toNatClampNeg) hcc hI
      refine g_aload_n X 1 dL_law_711 rfl rfl ?_
      refine g_aload_n X 0 dL_law_712 rfl rfl ?_
      refine g_iload_n X 3 dL_law_713 rfl rfl ?_
      refine g_iconst X (v := 1) dL_law_714 (by decide) ?_
      refine g_iadd X dL_law_715 ?_
      refine g_sld X hX dL_law_716 hq1 ?_
      refine g_aload_n X 0 dL_law_717 rfl rfl ?_
      refine g_iload_n X 3 dL_law_718 rfl rfl ?_
      refine g_iconst X (v := 2) dL_law_719 (by decide) ?_
      refine g_iadd X dL_law_720 ?_
      refine g_sld X hX dL_law_721 hq2 ?_
      refine g_eVI X 0 8 [.int (xs (nI j + 1).toNatClampNeg), .int (xs (nI j + 2).toNatClampNeg)] kV_L_85 (c_X9_film e1) dL_law_722 rfl rfl (sgN (by decide)) rfl (by decide) rfl rfl ⟨(Nat.le_of_ble_eq_true rfl), (Nat.le_of_ble_eq_true rfl)⟩ ⟨rfl, rfl⟩ ⟨hs1, hs2⟩ (Nat.le_of_ble_eq_true rfl) ?_
      refine g_aload_n X 2 dL_law_725 rfl rfl ?_
      refine g_aload_n X 0 dL_law_726 rfl rfl ?_
      refine g_iload_n X 3 dL_law_727 rfl rfl ?_
      refine g_iconst X (v := 1) dL_law_728 (by decide) ?_
      refine g_iadd X dL_law_729 ?_
      refine g_sld X hX dL_law_730 hq1 ?_
      refine g_aload_n X 0 dL_law_731 rfl rfl ?_
      refine g_iload_n X 3 dL_law_732 rfl rfl ?_
      refine g_iconst X (v := 2) dL_law_733 (by decide) ?_
      refine g_iadd X dL_law_734 ?_
      refine g_sld X hX dL_law_735 hq2 ?_
      refine g_eVI X 63 9 [.int (xs (nI j + 1).toNatClampNeg), .int (xs (nI j + 2).toNatClampNeg)] kV_L_88 (c_X10_film e2) dL_law_736 rfl rfl (sgN (by decide)) rfl (by decide) rfl rfl ⟨(Nat.le_of_ble_eq_true rfl), (Nat.le_of_ble_eq_true rfl)⟩ ⟨rfl, rfl⟩ ⟨hs1, hs2⟩ (Nat.le_of_ble_eq_true rfl) ?_
      refine g_icmp_eq X (tgt := 1105) dL_law_739 (by decide) (fun _ => ?_) (fun c9 => absurd rfl c9)
      exact again ad nt z m2 hI2
    by_cases c18 : v = (18 : Int32)
    · refine g_tblIn X (tgt := 744) dL_law_33 (by rw [c18]; decide) (by rw [c18]; decide) (off := 711) (by rw [c18]; rfl) (by decide) ?_
      obtain ⟨r, m1, m2, e1, e2, hI2⟩ := O.2.2.2.2.2.2.2.2.2.2.2.2.2.2.2.2.2.1 c nt z m0 (xs (nI j + 1).toNatClampNeg) hcc hI
      refine g_aload_n X 1 dL_law_744 rfl rfl ?_
      refine g_aload_n X 0 dL_law_745 rfl rfl ?_
      refine g_iload_n X 3 dL_law_746 rfl rfl ?_
      refine g_iconst X (v := 1) dL_law_747 (by decide) ?_
      refine g_iadd X dL_law_748 ?_
      refine g_sld X hX dL_law_749 hq1 ?_
      refine g_eVI X 0 8 [.int (xs (nI j + 1).toNatClampNeg)] kV_L_89 (c_X9_drawn e1) dL_law_750 rfl rfl (sgN (by decide)) rfl (by decide) rfl rfl ⟨(Nat.le_of_ble_eq_true rfl), (Nat.le_of_ble_eq_true rfl)⟩ ⟨rfl, rfl⟩ ⟨hs1, hs2⟩ (Nat.le_of_ble_eq_true rfl) ?_
      refine g_aload_n X 2 dL_law_753 rfl rfl ?_
      refine g_aload_n X 0 dL_law_754 rfl rfl ?_
      refine g_iload_n X 3 dL_law_755 rfl rfl ?_
      refine g_iconst X (v := 1) dL_law_756 (by decide) ?_
      refine g_iadd X dL_law_757 ?_
      refine g_sld X hX dL_law_758 hq1 ?_
      refine g_eVI X 63 9 [.int (xs (nI j + 1).toNatClampNeg)] kV_L_92 (c_X10_drawn e2) dL_law_759 rfl rfl (sgN (by decide)) rfl (by decide) rfl rfl ⟨(Nat.le_of_ble_eq_true rfl), (Nat.le_of_ble_eq_true rfl)⟩ ⟨rfl, rfl⟩ ⟨hs1, hs2⟩ (Nat.le_of_ble_eq_true rfl) ?_
      refine g_icmp_eq X (tgt := 1105) dL_law_762 (by decide) (fun _ => ?_) (fun c9 => absurd rfl c9)
      exact again ad nt z m2 hI2
    by_cases c19 : v = (19 : Int32)
    · refine g_tblIn X (tgt := 767) dL_law_33 (by rw [c19]; decide) (by rw [c19]; decide) (off := 734) (by rw [c19]; rfl) (by decide) ?_
      obtain ⟨r, m1, m2, e1, e2, hI2⟩ := O.2.2.2.2.2.2.2.2.2.2.2.2.2.2.2.2.2.2.1 c nt z m0 (xs (nI j + 1).toNatClampNeg) (xs (nI j + 2).toNatClampNeg) (xs (nI j + 3).toNatClampNeg) (xs (nI j + 4).toNatClampNeg) hcc hI
      refine g_aload_n X 1 dL_law_767 rfl rfl ?_
      refine g_aload_n X 0 dL_law_768 rfl rfl ?_
      refine g_iload_n X 3 dL_law_769 rfl rfl ?_
      refine g_iconst X (v := 1) dL_law_770 (by decide) ?_
      refine g_iadd X dL_law_771 ?_
      refine g_sld X hX dL_law_772 hq1 ?_
      refine g_aload_n X 0 dL_law_773 rfl rfl ?_
      refine g_iload_n X 3 dL_law_774 rfl rfl ?_
      refine g_iconst X (v := 2) dL_law_775 (by decide) ?_
      refine g_iadd X dL_law_776 ?_
      refine g_sld X hX dL_law_777 hq2 ?_
      refine g_aload_n X 0 dL_law_778 rfl rfl ?_
      refine g_iload_n X 3 dL_law_779 rfl rfl ?_
      refine g_iconst X (v := 3) dL_law_780 (by decide) ?_
      refine g_iadd X dL_law_781 ?_
      refine g_sld X hX dL_law_782 hq3 ?_
      refine g_aload_n X 0 dL_law_783 rfl rfl ?_
      refine g_iload_n X 3 dL_law_784 rfl rfl ?_
      refine g_iconst X (v := 4) dL_law_785 (by decide) ?_
      refine g_iadd X dL_law_786 ?_
      refine g_sld X hX dL_law_787 hq4 ?_
      refine g_eVL X 0 8 [.int (xs (nI j + 1).toNatClampNeg), .int (xs (nI j + 2).toNatClampNeg), .int (xs (nI j + 3).toNatClampNeg), .int (xs (nI j + 4).toNatClampNeg)] kV_L_93 (c_X9_chance e1) dL_law_788 rfl rfl (sgN (by decide)) rfl (by decide) rfl rfl ⟨(Nat.le_of_ble_eq_true rfl), (Nat.le_of_ble_eq_true rfl)⟩ ⟨rfl, rfl⟩ ⟨hs1, hs2⟩ (Nat.le_of_ble_eq_true rfl) ?_
      refine g_aload_n X 2 dL_law_791 rfl rfl ?_
      refine g_aload_n X 0 dL_law_792 rfl rfl ?_
      refine g_iload_n X 3 dL_law_793 rfl rfl ?_
      refine g_iconst X (v := 1) dL_law_794 (by decide) ?_
      refine g_iadd X dL_law_795 ?_
      refine g_sld X hX dL_law_796 hq1 ?_
      refine g_aload_n X 0 dL_law_797 rfl rfl ?_
      refine g_iload_n X 3 dL_law_798 rfl rfl ?_
      refine g_iconst X (v := 2) dL_law_799 (by decide) ?_
      refine g_iadd X dL_law_800 ?_
      refine g_sld X hX dL_law_801 hq2 ?_
      refine g_aload_n X 0 dL_law_802 rfl rfl ?_
      refine g_iload_n X 3 dL_law_803 rfl rfl ?_
      refine g_iconst X (v := 3) dL_law_804 (by decide) ?_
      refine g_iadd X dL_law_805 ?_
      refine g_sld X hX dL_law_806 hq3 ?_
      refine g_aload_n X 0 dL_law_807 rfl rfl ?_
      refine g_iload_n X 3 dL_law_808 rfl rfl ?_
      refine g_iconst X (v := 4) dL_law_809 (by decide) ?_
      refine g_iadd X dL_law_810 ?_
      refine g_sld X hX dL_law_811 hq4 ?_
      refine g_eVL X 63 9 [.int (xs (nI j + 1).toNatClampNeg), .int (xs (nI j + 2).toNatClampNeg), .int (xs (nI j + 3).toNatClampNeg), .int (xs (nI j + 4).toNatClampNeg)] kV_L_97 (c_X10_chance e2) dL_law_812 rfl rfl (sgN (by decide)) rfl (by decide) rfl rfl ⟨(Nat.le_of_ble_eq_true rfl), (Nat.le_of_ble_eq_true rfl)⟩ ⟨rfl, rfl⟩ ⟨hs1, hs2⟩ (Nat.le_of_ble_eq_true rfl) ?_
      refine g_lcmp X dL_law_815 ?_
      refine g_if_eq X (tgt := 1105) dL_law_816 (by decide) (fun _ => ?_) (fun c9 => absurd (lg_cmp_self _) c9)
      exact again ad nt z m2 hI2
    by_cases c20 : v = (20 : Int32)
    · refine g_tblIn X (tgt := 821) dL_law_33 (by rw [c20]; decide) (by rw [c20]; decide) (off := 788) (by rw [c20]; rfl) (by decide) ?_
      obtain ⟨r, m1, m2, e1, e2, hI2⟩ := O.2.2.2.2.2.2.2.2.2.2.2.2.2.2.2.2.2.2.2.1 c nt z m0 hcc hI
      refine g_aload_n X 1 dL_law_821 rfl rfl ?_
      refine g_eVI X 0 8 [] kV_L_98 (c_X9_image e1) dL_law_822 rfl rfl (sgN (by decide)) rfl (by decide) rfl rfl ⟨(Nat.le_of_ble_eq_true rfl), (Nat.le_of_ble_eq_true rfl)⟩ ⟨rfl, rfl⟩ ⟨hs1, hs2⟩ (Nat.le_of_ble_eq_true rfl) ?_
      refine g_aload_n X 2 dL_law_825 rfl rfl ?_
      refine g_eVI X 63 9 [] kV_L_101 (c_X10_image e2) dL_law_826 rfl rfl (sgN (by decide)) rfl (by decide) rfl rfl ⟨(Nat.le_of_ble_eq_true rfl), (Nat.le_of_ble_eq_true rfl)⟩ ⟨rfl, rfl⟩ ⟨hs1, hs2⟩ (Nat.le_of_ble_eq_true rfl) ?_
      refine g_icmp_eq X (tgt := 1105) dL_law_829 (by decide) (fun _ => ?_) (fun c9 => absurd rfl c9)
      exact again ad nt z m2 hI2
    by_cases c21 : v = (21 : Int32)
    · refine g_tblIn X (tgt := 834) dL_law_33 (by rw [c21]; decide) (by rw [c21]; decide) (off := 801) (by rw [c21]; rfl) (by decide) ?_
      obtain ⟨r, m1, m2, e1, e2, hI2⟩ := O.2.2.2.2.2.2.2.2.2.2.2.2.2.2.2.2.2.2.2.2.1 c nt z m0 hcc hI
      refine g_aload_n X 1 dL_law_834 rfl rfl ?_
      refine g_eVI X 0 8 [] kV_L_102 (c_X9_back e1) dL_law_835 rfl rfl (sgN (by decide)) rfl (by decide) rfl rfl ⟨(Nat.le_of_ble_eq_true rfl), (Nat.le_of_ble_eq_true rfl)⟩ ⟨rfl, rfl⟩ ⟨hs1, hs2⟩ (Nat.le_of_ble_eq_true rfl) ?_
      refine g_aload_n X 2 dL_law_838 rfl rfl ?_
      refine g_eVI X 63 9 [] kV_L_105 (c_X10_back e2) dL_law_839 rfl rfl (sgN (by decide)) rfl (by decide) rfl rfl ⟨(Nat.le_of_ble_eq_true rfl), (Nat.le_of_ble_eq_true rfl)⟩ ⟨rfl, rfl⟩ ⟨hs1, hs2⟩ (Nat.le_of_ble_eq_true rfl) ?_
      refine g_icmp_eq X (tgt := 1105) dL_law_842 (by decide) (fun _ => ?_) (fun c9 => absurd rfl c9)
      exact again ad nt z m2 hI2
    by_cases c22 : v = (22 : Int32)
    · refine g_tblIn X (tgt := 847) dL_law_33 (by rw [c22]; decide) (by rw [c22]; decide) (off := 814) (by rw [c22]; rfl) (by decide) ?_
      obtain ⟨r, m1, m2, e1, e2, hI2⟩ := O.2.2.2.2.2.2.2.2.2.2.2.2.2.2.2.2.2.2.2.2.2.1 c nt z m0 (xs (nI j + 1).toNatClampNeg) hcc hI
      refine g_aload_n X 1 dL_law_847 rfl rfl ?_
      refine g_aload_n X 0 dL_law_848 rfl rfl ?_
      refine g_iload_n X 3 dL_law_849 rfl rfl ?_
      refine g_iconst X (v := 1) dL_law_850 (by decide) ?_
      refine g_iadd X dL_law_851 ?_
      refine g_sld X hX dL_law_852 hq1 ?_
      refine g_eVI X 0 8 [.int (xs (nI j + 1).toNatClampNeg)] kV_L_106 (c_X9_count e1) dL_law_853 rfl rfl (sgN (by decide)) rfl (by decide) rfl rfl ⟨(Nat.le_of_ble_eq_true rfl), (Nat.le_of_ble_eq_true rfl)⟩ ⟨rfl, rfl⟩ ⟨hs1, hs2⟩ (Nat.le_of_ble_eq_true rfl) ?_
      refine g_aload_n X 2 dL_law_856 rfl rfl ?_
      refine g_aload_n X 0 dL_law_857 rfl rfl ?_
      refine g_iload_n X 3 dL_law_858 rfl rfl ?_
      refine g_iconst X (v := 1) dL_law_859 (by decide) ?_
      refine g_iadd X dL_law_860 ?_
      refine g_sld X hX dL_law_861 hq1 ?_
      refine g_eVI X 63 9 [.int (xs (nI j + 1).toNatClampNeg)] kV_L_109 (c_X10_count e2) dL_law_862 rfl rfl (sgN (by decide)) rfl (by decide) rfl rfl ⟨(Nat.le_of_ble_eq_true rfl), (Nat.le_of_ble_eq_true rfl)⟩ ⟨rfl, rfl⟩ ⟨hs1, hs2⟩ (Nat.le_of_ble_eq_true rfl) ?_
      refine g_icmp_eq X (tgt := 1105) dL_law_865 (by decide) (fun _ => ?_) (fun c9 => absurd rfl c9)
      exact again ad nt z m2 hI2
    by_cases c23 : v = (23 : Int32)
    · refine g_tblIn X (tgt := 870) dL_law_33 (by rw [c23]; decide) (by rw [c23]; decide) (off := 837) (by rw [c23]; rfl) (by decide) ?_
      obtain ⟨r, m1, m2, e1, e2, hI2⟩ := O.2.2.2.2.2.2.2.2.2.2.2.2.2.2.2.2.2.2.2.2.2.2.1 c nt z m0 (xs (nI j + 1).toNatClampNeg) (xs (nI j + 2).toNatClampNeg) (xs (nI j + 3).toNatClampNeg) hcc hI
      refine g_aload_n X 1 dL_law_870 rfl rfl ?_
      refine g_aload_n X 0 dL_law_871 rfl rfl ?_
      refine g_iload_n X 3 dL_law_872 rfl rfl ?_
      refine g_iconst X (v := 1) dL_law_873 (by decide) ?_
      refine g_iadd X dL_law_874 ?_
      refine g_sld X hX dL_law_875 hq1 ?_
      refine g_aload_n X 0 dL_law_876 rfl rfl ?_
      refine g_iload_n X 3 dL_law_877 rfl rfl ?_
      refine g_iconst X (v := 2) dL_law_878 (by decide) ?_
      refine g_iadd X dL_law_879 ?_
      refine g_sld X hX dL_law_880 hq2 ?_
      refine g_aload_n X 0 dL_law_881 rfl rfl ?_
      refine g_iload_n X 3 dL_law_882 rfl rfl ?_
      refine g_iconst X (v := 3) dL_law_883 (by decide) ?_
      refine g_iadd X dL_law_884 ?_
      refine g_sld X hX dL_law_885 hq3 ?_
      refine g_eVI X 0 8 [.int (xs (nI j + 1).toNatClampNeg), .int (xs (nI j + 2).toNatClampNeg), .int (xs (nI j + 3).toNatClampNeg)] kV_L_110 (c_X9_sheet e1) dL_law_886 rfl rfl (sgN (by decide)) rfl (by decide) rfl rfl ⟨(Nat.le_of_ble_eq_true rfl), (Nat.le_of_ble_eq_true rfl)⟩ ⟨rfl, rfl⟩ ⟨hs1, hs2⟩ (Nat.le_of_ble_eq_true rfl) ?_
      refine g_aload_n X 2 dL_law_889 rfl rfl ?_
      refine g_aload_n X 0 dL_law_890 rfl rfl ?_
      refine g_iload_n X 3 dL_law_891 rfl rfl ?_
      refine g_iconst X (v := 1) dL_law_892 (by decide) ?_
      refine g_iadd X dL_law_893 ?_
      refine g_sld X hX dL_law_894 hq1 ?_
      refine g_aload_n X 0 dL_law_895 rfl rfl ?_
      refine g_iload_n X 3 dL_law_896 rfl rfl ?_
      refine g_iconst X (v := 2) dL_law_897 (by decide) ?_
      refine g_iadd X dL_law_898 ?_
      refine g_sld X hX dL_law_899 hq2 ?_
      refine g_aload_n X 0 dL_law_900 rfl rfl ?_
      refine g_iload_n X 3 dL_law_901 rfl rfl ?_
      refine g_iconst X (v := 3) dL_law_902 (by decide) ?_
      refine g_iadd X dL_law_903 ?_
      refine g_sld X hX dL_law_904 hq3 ?_
      refine g_eVI X 63 9 [.int (xs (nI j + 1).toNatClampNeg), .int (xs (nI j + 2).toNatClampNeg), .int (xs (nI j + 3).toNatClampNeg)] kV_L_113 (c_X10_sheet e2) dL_law_905 rfl rfl (sgN (by decide)) rfl (by decide) rfl rfl ⟨(Nat.le_of_ble_eq_true rfl), (Nat.le_of_ble_eq_true rfl)⟩ ⟨rfl, rfl⟩ ⟨hs1, hs2⟩ (Nat.le_of_ble_eq_true rfl) ?_
      refine g_icmp_eq X (tgt := 1105) dL_law_908 (by decide) (fun _ => ?_) (fun c9 => absurd rfl c9)
      exact again ad nt z m2 hI2
    by_cases c24 : v = (24 : Int32)
    · refine g_tblIn X (tgt := 913) dL_law_33 (by rw [c24]; decide) (by rw [c24]; decide) (off := 880) (by rw [c24]; rfl) (by decide) ?_
      obtain ⟨r, m1, m2, e1, e2, hI2⟩ := O.2.2.2.2.2.2.2.2.2.2.2.2.2.2.2.2.2.2.2.2.2.2.2.1 c nt z m0 (xs (nI j + 1).toNatClampNeg) (xs (nI j + 2).toNatClampNeg) (xs (nI j + 3).toNatClampNeg) hcc hI
      refine g_aload_n X 1 dL_law_913 rfl rfl ?_
      refine g_aload_n X 0 dL_law_914 rfl rfl ?_
      refine g_iload_n X 3 dL_law_915 rfl rfl ?_
      refine g_iconst X (v := 1) dL_law_916 (by decide) ?_
      refine g_iadd X dL_law_917 ?_
      refine g_sld X hX dL_law_918 hq1 ?_
      refine g_aload_n X 0 dL_law_919 rfl rfl ?_
      refine g_iload_n X 3 dL_law_920 rfl rfl ?_
      refine g_iconst X (v := 2) dL_law_921 (by decide) ?_
      refine g_iadd X dL_law_922 ?_
      refine g_sld X hX dL_law_923 hq2 ?_
      refine g_aload_n X 0 dL_law_924 rfl rfl ?_
      refine g_iload_n X 3 dL_law_925 rfl rfl ?_
      refine g_iconst X (v := 3) dL_law_926 (by decide) ?_
      refine g_iadd X dL_law_927 ?_
      refine g_sld X hX dL_law_928 hq3 ?_
      refine g_eVI X 0 8 [.int (xs (nI j + 1).toNatClampNeg), .int (xs (nI j + 2).toNatClampNeg), .int (xs (nI j + 3).toNatClampNeg)] kV_L_114 (c_X9_cell e1) dL_law_929 rfl rfl (sgN (by decide)) rfl (by decide) rfl rfl ⟨(Nat.le_of_ble_eq_true rfl), (Nat.le_of_ble_eq_true rfl)⟩ ⟨rfl, rfl⟩ ⟨hs1, hs2⟩ (Nat.le_of_ble_eq_true rfl) ?_
      refine g_aload_n X 2 dL_law_932 rfl rfl ?_
      refine g_aload_n X 0 dL_law_933 rfl rfl ?_
      refine g_iload_n X 3 dL_law_934 rfl rfl ?_
      refine g_iconst X (v := 1) dL_law_935 (by decide) ?_
      refine g_iadd X dL_law_936 ?_
      refine g_sld X hX dL_law_937 hq1 ?_
      refine g_aload_n X 0 dL_law_938 rfl rfl ?_
      refine g_iload_n X 3 dL_law_939 rfl rfl ?_
      refine g_iconst X (v := 2) dL_law_940 (by decide) ?_
      refine g_iadd X dL_law_941 ?_
      refine g_sld X hX dL_law_942 hq2 ?_
      refine g_aload_n X 0 dL_law_943 rfl rfl ?_
      refine g_iload_n X 3 dL_law_944 rfl rfl ?_
      refine g_iconst X (v := 3) dL_law_945 (by decide) ?_
      refine g_iadd X dL_law_946 ?_
      refine g_sld X hX dL_law_947 hq3 ?_
      refine g_eVI X 63 9 [.int (xs (nI j + 1).toNatClampNeg), .int (xs (nI j + 2).toNatClampNeg), .int (xs (nI j + 3).toNatClampNeg)] kV_L_117 (c_X10_cell e2) dL_law_948 rfl rfl (sgN (by decide)) rfl (by decide) rfl rfl ⟨(Nat.le_of_ble_eq_true rfl), (Nat.le_of_ble_eq_true rfl)⟩ ⟨rfl, rfl⟩ ⟨hs1, hs2⟩ (Nat.le_of_ble_eq_true rfl) ?_
      refine g_icmp_eq X (tgt := 1105) dL_law_951 (by decide) (fun _ => ?_) (fun c9 => absurd rfl c9)
      exact again ad nt z m2 hI2
    by_cases c25 : v = (25 : Int32)
    · refine g_tblIn X (tgt := 956) dL_law_33 (by rw [c25]; decide) (by rw [c25]; decide) (off := 923) (by rw [c25]; rfl) (by decide) ?_
      obtain ⟨r, m1, m2, e1, e2, hI2⟩ := O.2.2.2.2.2.2.2.2.2.2.2.2.2.2.2.2.2.2.2.2.2.2.2.2.1 c nt z m0 (xs (nI j + 1).toNatClampNeg) (xs (nI j + 2).toNatClampNeg) (xs (nI j + 3).toNatClampNeg) (xs (nI j + 4).toNatClampNeg) (xs (nI j + 5).toNatClampNeg) hcc hI
      refine g_aload_n X 1 dL_law_956 rfl rfl ?_
      refine g_aload_n X 0 dL_law_957 rfl rfl ?_
      refine g_iload_n X 3 dL_law_958 rfl rfl ?_
      refine g_iconst X (v := 1) dL_law_959 (by decide) ?_
      refine g_iadd X dL_law_960 ?_
      refine g_sld X hX dL_law_961 hq1 ?_
      refine g_aload_n X 0 dL_law_962 rfl rfl ?_
      refine g_iload_n X 3 dL_law_963 rfl rfl ?_
      refine g_iconst X (v := 2) dL_law_964 (by decide) ?_
      refine g_iadd X dL_law_965 ?_
      refine g_sld X hX dL_law_966 hq2 ?_
      refine g_aload_n X 0 dL_law_967 rfl rfl ?_
      refine g_iload_n X 3 dL_law_968 rfl rfl ?_
      refine g_iconst X (v := 3) dL_law_969 (by decide) ?_
      refine g_iadd X dL_law_970 ?_
      refine g_sld X hX dL_law_971 hq3 ?_
      refine g_aload_n X 0 dL_law_972 rfl rfl ?_
      refine g_iload_n X 3 dL_law_973 rfl rfl ?_
      refine g_iconst X (v := 4) dL_law_974 (by decide) ?_
      refine g_iadd X dL_law_975 ?_
      refine g_sld X hX dL_law_976 hq4 ?_
      refine g_aload_n X 0 dL_law_977 rfl rfl ?_
      refine g_iload_n X 3 dL_law_978 rfl rfl ?_
      refine g_iconst X (v := 5) dL_law_979 (by decide) ?_
      refine g_iadd X dL_law_980 ?_
      refine g_sld X hX dL_law_981 hq5 ?_
      refine g_eVI X 0 8 [.int (xs (nI j + 1).toNatClampNeg), .int (xs (nI j + 2).toNatClampNeg), .int (xs (nI j + 3).toNatClampNeg), .int (xs (nI j + 4).toNatClampNeg), .int (xs (nI j + 5).toNatClampNeg)] kV_L_118 (c_X9_copy e1) dL_law_982 rfl rfl (sgN (by decide)) rfl (by decide) rfl rfl ⟨(Nat.le_of_ble_eq_true rfl), (Nat.le_of_ble_eq_true rfl)⟩ ⟨rfl, rfl⟩ ⟨hs1, hs2⟩ (Nat.le_of_ble_eq_true rfl) ?_
      refine g_aload_n X 2 dL_law_985 rfl rfl ?_
      refine g_aload_n X 0 dL_law_986 rfl rfl ?_
      refine g_iload_n X 3 dL_law_987 rfl rfl ?_
      refine g_iconst X (v := 1) dL_law_988 (by decide) ?_
      refine g_iadd X dL_law_989 ?_
      refine g_sld X hX dL_law_990 hq1 ?_
      refine g_aload_n X 0 dL_law_991 rfl rfl ?_
      refine g_iload_n X 3 dL_law_992 rfl rfl ?_
      refine g_iconst X (v := 2) dL_law_993 (by decide) ?_
      refine g_iadd X dL_law_994 ?_
      refine g_sld X hX dL_law_995 hq2 ?_
      refine g_aload_n X 0 dL_law_996 rfl rfl ?_
      refine g_iload_n X 3 dL_law_997 rfl rfl ?_
      refine g_iconst X (v := 3) dL_law_998 (by decide) ?_
      refine g_iadd X dL_law_999 ?_
      refine g_sld X hX dL_law_1000 hq3 ?_
      refine g_aload_n X 0 dL_law_1001 rfl rfl ?_
      refine g_iload_n X 3 dL_law_1002 rfl rfl ?_
      refine g_iconst X (v := 4) dL_law_1003 (by decide) ?_
      refine g_iadd X dL_law_1004 ?_
      refine g_sld X hX dL_law_1005 hq4 ?_
      refine g_aload_n X 0 dL_law_1006 rfl rfl ?_
      refine g_iload_n X 3 dL_law_1007 rfl rfl ?_
      refine g_iconst X (v := 5) dL_law_1008 (by decide) ?_
      refine g_iadd X dL_law_1009 ?_
      refine g_sld X hX dL_law_1010 hq5 ?_
      refine g_eVI X 63 9 [.int (xs (nI j + 1).toNatClampNeg), .int (xs (nI j + 2).toNatClampNeg), .int (xs (nI j + 3).toNatClampNeg), .int (xs (nI j + 4).toNatClampNeg), .int (xs (nI j + 5).toNatClampNeg)] kV_L_122 (c_X10_copy e2) dL_law_1011 rfl rfl (sgN (by decide)) rfl (by decide) rfl rfl ⟨(Nat.le_of_ble_eq_true rfl), (Nat.le_of_ble_eq_true rfl)⟩ ⟨rfl, rfl⟩ ⟨hs1, hs2⟩ (Nat.le_of_ble_eq_true rfl) ?_
      refine g_icmp_eq X (tgt := 1105) dL_law_1014 (by decide) (fun _ => ?_) (fun c9 => absurd rfl c9)
      exact again ad nt z m2 hI2
    by_cases c26 : v = (26 : Int32)
    · refine g_tblIn X (tgt := 1019) dL_law_33 (by rw [c26]; decide) (by rw [c26]; decide) (off := 986) (by rw [c26]; rfl) (by decide) ?_
      obtain ⟨r, m1, m2, e1, e2, hI2⟩ := O.2.2.2.2.2.2.2.2.2.2.2.2.2.2.2.2.2.2.2.2.2.2.2.2.2.1 c nt z m0 (xs (nI j + 1).toNatClampNeg) (xs (nI j + 2).toNatClampNeg) (xs (nI j + 3).toNatClampNeg) (xs (nI j + 4).toNatClampNeg) hcc hI
      refine g_aload_n X 1 dL_law_1019 rfl rfl ?_
      refine g_aload_n X 0 dL_law_1020 rfl rfl ?_
      refine g_iload_n X 3 dL_law_1021 rfl rfl ?_
      refine g_iconst X (v := 1) dL_law_1022 (by decide) ?_
      refine g_iadd X dL_law_1023 ?_
      refine g_sld X hX dL_law_1024 hq1 ?_
      refine g_aload_n X 0 dL_law_1025 rfl rfl ?_
      refine g_iload_n X 3 dL_law_1026 rfl rfl ?_
      refine g_iconst X (v := 2) dL_law_1027 (by decide) ?_
      refine g_iadd X dL_law_1028 ?_
      refine g_sld X hX dL_law_1029 hq2 ?_
      refine g_aload_n X 0 dL_law_1030 rfl rfl ?_
      refine g_iload_n X 3 dL_law_1031 rfl rfl ?_
      refine g_iconst X (v := 3) dL_law_1032 (by decide) ?_
      refine g_iadd X dL_law_1033 ?_
      refine g_sld X hX dL_law_1034 hq3 ?_
      refine g_aload_n X 0 dL_law_1035 rfl rfl ?_
      refine g_iload_n X 3 dL_law_1036 rfl rfl ?_
      refine g_iconst X (v := 4) dL_law_1037 (by decide) ?_
      refine g_iadd X dL_law_1038 ?_
      refine g_sld X hX dL_law_1039 hq4 ?_
      refine g_eVI X 0 8 [.int (xs (nI j + 1).toNatClampNeg), .int (xs (nI j + 2).toNatClampNeg), .int (xs (nI j + 3).toNatClampNeg), .int (xs (nI j + 4).toNatClampNeg)] kV_L_123 (c_X9_people e1) dL_law_1040 rfl rfl (sgN (by decide)) rfl (by decide) rfl rfl ⟨(Nat.le_of_ble_eq_true rfl), (Nat.le_of_ble_eq_true rfl)⟩ ⟨rfl, rfl⟩ ⟨hs1, hs2⟩ (Nat.le_of_ble_eq_true rfl) ?_
      refine g_aload_n X 2 dL_law_1043 rfl rfl ?_
      refine g_aload_n X 0 dL_law_1044 rfl rfl ?_
      refine g_iload_n X 3 dL_law_1045 rfl rfl ?_
      refine g_iconst X (v := 1) dL_law_1046 (by decide) ?_
      refine g_iadd X dL_law_1047 ?_
      refine g_sld X hX dL_law_1048 hq1 ?_
      refine g_aload_n X 0 dL_law_1049 rfl rfl ?_
      refine g_iload_n X 3 dL_law_1050 rfl rfl ?_
      refine g_iconst X (v := 2) dL_law_1051 (by decide) ?_
      refine g_iadd X dL_law_1052 ?_
      refine g_sld X hX dL_law_1053 hq2 ?_
      refine g_aload_n X 0 dL_law_1054 rfl rfl ?_
      refine g_iload_n X 3 dL_law_1055 rfl rfl ?_
      refine g_iconst X (v := 3) dL_law_1056 (by decide) ?_
      refine g_iadd X dL_law_1057 ?_
      refine g_sld X hX dL_law_1058 hq3 ?_
      refine g_aload_n X 0 dL_law_1059 rfl rfl ?_
      refine g_iload_n X 3 dL_law_1060 rfl rfl ?_
      refine g_iconst X (v := 4) dL_law_1061 (by decide) ?_
      refine g_iadd X dL_law_1062 ?_
      refine g_sld X hX dL_law_1063 hq4 ?_
      refine g_eVI X 63 9 [.int (xs (nI j + 1).toNatClampNeg), .int (xs (nI j + 2).toNatClampNeg), .int (xs (nI j + 3).toNatClampNeg), .int (xs (nI j + 4).toNatClampNeg)] kV_L_127 (c_X10_people e2) dL_law_1064 rfl rfl (sgN (by decide)) rfl (by decide) rfl rfl ⟨(Nat.le_of_ble_eq_true rfl), (Nat.le_of_ble_eq_true rfl)⟩ ⟨rfl, rfl⟩ ⟨hs1, hs2⟩ (Nat.le_of_ble_eq_true rfl) ?_
      refine g_icmp_eq X (tgt := 1105) dL_law_1067 (by decide) (fun _ => ?_) (fun c9 => absurd rfl c9)
      exact again ad nt z m2 hI2
    by_cases c27 : v = (27 : Int32)
    · refine g_tblIn X (tgt := 1072) dL_law_33 (by rw [c27]; decide) (by rw [c27]; decide) (off := 1039) (by rw [c27]; rfl) (by decide) ?_
      obtain ⟨r, m1, m2, e1, e2, hI2⟩ := O.2.2.2.2.2.2.2.2.2.2.2.2.2.2.2.2.2.2.2.2.2.2.2.2.2.2.1 c nt z m0 (xs (nI j + 1).toNatClampNeg) (xs (nI j + 2).toNatClampNeg) hcc hI
      refine g_aload_n X 1 dL_law_1072 rfl rfl ?_
      refine g_aload_n X 0 dL_law_1073 rfl rfl ?_
      refine g_iload_n X 3 dL_law_1074 rfl rfl ?_
      refine g_iconst X (v := 1) dL_law_1075 (by decide) ?_
      refine g_iadd X dL_law_1076 ?_
      refine g_sld X hX dL_law_1077 hq1 ?_
      refine g_aload_n X 0 dL_law_1078 rfl rfl ?_
      refine g_iload_n X 3 dL_law_1079 rfl rfl ?_
      refine g_iconst X (v := 2) dL_law_1080 (by decide) ?_
      refine g_iadd X dL_law_1081 ?_
      refine g_sld X hX dL_law_1082 hq2 ?_
      refine g_eVI X 0 8 [.int (xs (nI j + 1).toNatClampNeg), .int (xs (nI j + 2).toNatClampNeg)] kV_L_128 (c_X9_taken e1) dL_law_1083 rfl rfl (sgN (by decide)) rfl (by decide) rfl rfl ⟨(Nat.le_of_ble_eq_true rfl), (Nat.le_of_ble_eq_true rfl)⟩ ⟨rfl, rfl⟩ ⟨hs1, hs2⟩ (Nat.le_of_ble_eq_true rfl) ?_
      refine g_aload_n X 2 dL_law_1086 rfl rfl ?_
      refine g_aload_n X 0 dL_law_1087 rfl rfl ?_
      refine g_iload_n X 3 dL_law_1088 rfl rfl ?_
      refine g_iconst X (v := 1) dL_law_1089 (by decide) ?_
      refine g_iadd X dL_law_1090 ?_
      refine g_sld X hX dL_law_1091 hq1 ?_
      refine g_aload_n X 0 dL_law_1092 rfl rfl ?_
      refine g_iload_n X 3 dL_law_1093 rfl rfl ?_
      refine g_iconst X (v := 2) dL_law_1094 (by decide) ?_
      refine g_iadd X dL_law_1095 ?_
      refine g_sld X hX dL_law_1096 hq2 ?_
      refine g_eVI X 63 9 [.int (xs (nI j + 1).toNatClampNeg), .int (xs (nI j + 2).toNatClampNeg)] kV_L_131 (c_X10_taken e2) dL_law_1097 rfl rfl (sgN (by decide)) rfl (by decide) rfl rfl ⟨(Nat.le_of_ble_eq_true rfl), (Nat.le_of_ble_eq_true rfl)⟩ ⟨rfl, rfl⟩ ⟨hs1, hs2⟩ (Nat.le_of_ble_eq_true rfl) ?_
      refine g_icmp_eq X (tgt := 1105) dL_law_1100 (by decide) (fun _ => ?_) (fun c9 => absurd rfl c9)
      exact again ad nt z m2 hI2
    refine g_tblOut X (tgt := 1105) dL_law_33 (by have g0 := lv_neT (a := 0) c0 rfl; have g1 := lv_neT (a := 1) c1 rfl; have g2 := lv_neT (a := 2) c2 rfl; have g3 := lv_neT (a := 3) c3 rfl; have g4 := lv_neT (a := 4) c4 rfl; have g5 := lv_neT (a := 5) c5 rfl; have g6 := lv_neT (a := 6) c6 rfl; have g7 := lv_neT (a := 7) c7 rfl; have g8 := lv_neT (a := 8) c8 rfl; have g9 := lv_neT (a := 9) c9 rfl; have g10 := lv_neT (a := 10) c10 rfl; have g11 := lv_neT (a := 11) c11 rfl; have g12 := lv_neT (a := 12) c12 rfl; have g13 := lv_neT (a := 13) c13 rfl; have g14 := lv_neT (a := 14) c14 rfl; have g15 := lv_neT (a := 15) c15 rfl; have g16 := lv_neT (a := 16) c16 rfl; have g17 := lv_neT (a := 17) c17 rfl; have g18 := lv_neT (a := 18) c18 rfl; have g19 := lv_neT (a := 19) c19 rfl; have g20 := lv_neT (a := 20) c20 rfl; have g21 := lv_neT (a := 21) c21 rfl; have g22 := lv_neT (a := 22) c22 rfl; have g23 := lv_neT (a := 23) c23 rfl; have g24 := lv_neT (a := 24) c24 rfl; have g25 := lv_neT (a := 25) c25 rfl; have g26 := lv_neT (a := 26) c26 rfl; have g27 := lv_neT (a := 27) c27 rfl; omega) (by decide) ?_
    exact again ad nt z m0 (O.2.2.2.2.2.2.2.2.2.2.2.2.2.2.2.2.2.2.2.2.2.2.2.2.2.2.2.2 c nt z m0 hI)
