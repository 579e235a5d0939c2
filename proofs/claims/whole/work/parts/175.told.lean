/-! calls: told -/
section
variable {c nt : Nat} {z : Nat → Nat} {m : Mem} {cd : Nat → Cd} {r rk : Nat → Nat} {G H : Fo} {tp : Nat → Nat} {n ve : Nat}
theorem told_n {a1 a2 : Int32} (hv : ve ≤ c) (hE : CE cd r nt z ve m) (hW : IW cd r rk G H tp n nt m) (hz : a2 < nI 0) : ∃ (r : Int32) (m1 m2 : Mem), X9_told nt z a1 a2 m = some (r, m1) ∧ X10_told a1 a2 m1 = some (r, m2) ∧ Iv (c + 1) nt z m2 := by
  have bad : Iv (c + 1) nt z m := Iv_0 hv hE hW
  obtain ⟨w1, w2, w3, w4, w5, w6, w7, w8⟩ := hW
  have g0 := w4.1
  have pc := fun x => isPerson_c g0 x m (w2.1 0 (by decide))
  have hz' : (a2 < nI 0) = True := eq_true hz
  have hz1 : (a2 = nI 0) = False := eq_false (fun q => by rw [q] at hz; exact absurd hz (by decide))
  have hz2 : (nI 0 ≤ a2) = False := eq_false (fun q => by
    have h1 := Int32.lt_iff_toInt_lt.mp hz
    have h2 := Int32.le_iff_toInt_le.mp q
    omega)
  have h8 : inn a2 (8 + 1) = False := eq_false (fun q => by
    have h1 := Int32.lt_iff_toInt_lt.mp hz
    have h2 := (inn_i.mp q).1
    rw [show (nI 0).toInt = 0 from rfl] at h1
    omega)
  have ng := fun (a b : Nat) (ha : a < 1000000) (hb : b < 1000000) => inNg hz ha hb m
  have n1 := ng 10 17 (by decide) (by decide)
  have n2 := ng 20 27 (by decide) (by decide)
  have n3 := ng 30 37 (by decide) (by decide)
  unfold X9_told X10_told X10_told_47
  rcases dich a1 (G 0 0) (by omega) with ⟨p, hp, rfl⟩ | d1
  · simp (disch := omega) only [leT, leF, ltT, ltF, eqT, eqF, inT, n_cl, nI_add, pk_mul, n_div, pk_sub, md8, md2, or_true, true_or, or_false, false_or, Bool.true_eq_false, Bool.false_eq_true, L0, L1, L2, L3, L4, L5, L6, L7, L8, L9, L10, L20, L31, L40, L64, L99, L100, L255, L256, L999, L1000, L99999, ↓reduceIte, L11, L12, L13, L14, L15, L16, L30, L48, L160, K1, K2, K3, K4, K5, K7, K8, K9, K15, K17, K20, K27, K37, K48, K99, K255, inR, isPlace_r, isPlace_c, isSheet_r, hz1, pc, bi, hz2]
    exact ⟨_, _, _, rfl, by simp (disch := omega) only [leT, leF, ltT, ltF, eqT, eqF, inT, n_cl, nI_add, pk_mul, n_div, pk_sub, md8, md2, or_true, true_or, or_false, false_or, Bool.true_eq_false, Bool.false_eq_true, L0, L1, L2, L3, L4, L5, L6, L7, L8, L9, L10, L20, L31, L40, L64, L99, L100, L255, L256, L999, L1000, L99999, ↓reduceIte, L11, L12, L13, L14, L15, L16, L30, L48, L160, K1, K2, K3, K4, K5, K7, K8, K9, K15, K17, K20, K27, K37, K48, K99, K255, inR, isPlace_r, isPlace_c, isSheet_r, K10, K30, n1, n2, n3, bi, h8], bad⟩
  · simp (disch := omega) only [leT, leF, ltT, ltF, eqT, eqF, inT, n_cl, nI_add, pk_mul, n_div, pk_sub, md8, md2, or_true, true_or, or_false, false_or, Bool.true_eq_false, Bool.false_eq_true, L0, L1, L2, L3, L4, L5, L6, L7, L8, L9, L10, L20, L31, L40, L64, L99, L100, L255, L256, L999, L1000, L99999, ↓reduceIte, L11, L12, L13, L14, L15, L16, L30, L48, L160, K1, K2, K3, K4, K5, K7, K8, K9, K15, K17, K20, K27, K37, K48, K99, K255, inR, isPlace_r, isPlace_c, isSheet_r, hz1, pc, bi, d1.1]
    exact ⟨_, _, _, rfl, by simp (disch := omega) only [leT, leF, ltT, ltF, eqT, eqF, inT, n_cl, nI_add, pk_mul, n_div, pk_sub, md8, md2, or_true, true_or, or_false, false_or, Bool.true_eq_false, Bool.false_eq_true, L0, L1, L2, L3, L4, L5, L6, L7, L8, L9, L10, L20, L31, L40, L64, L99, L100, L255, L256, L999, L1000, L99999, ↓reduceIte, L11, L12, L13, L14, L15, L16, L30, L48, L160, K1, K2, K3, K4, K5, K7, K8, K9, K15, K17, K20, K27, K37, K48, K99, K255, inR, isPlace_r, isPlace_c, isSheet_r, K10, K30, n1, n2, n3, bi, h8], bad⟩
theorem told_d {a1 : Int32} {w : Nat} (hv : ve ≤ c) (hE : CE cd r nt z ve m) (hW : IW cd r rk G H tp n nt m) (hw : w < 2 ^ 31) (q0 : ¬ w = 0) (d1 : OutR a1 (G 0 0)) : ∃ (r : Int32) (m1 m2 : Mem), X9_told nt z a1 (nI w) m = some (r, m1) ∧ X10_told a1 (nI w) m1 = some (r, m2) ∧ Iv (c + 1) nt z m2 := by
  have bad : Iv (c + 1) nt z m := Iv_0 hv hE hW
  obtain ⟨w1, w2, w3, w4, w5, w6, w7, w8⟩ := hW
  have g0 := w4.1
  have pc := fun x => isPerson_c g0 x m (w2.1 0 (by decide))
  have pr := fun x => isOne_r g0 x m w3.1
  have hd := d1.1
  unfold X9_told X10_told X10_told_42 X10_told_47 X10_told_64
  simp (disch := omega) only [leT, leF, ltT, ltF, eqT, eqF, inT, n_cl, nI_add, pk_mul, n_div, pk_sub, md8, md2, or_true, true_or, or_false, false_or, Bool.true_eq_false, Bool.false_eq_true, L0, L1, L2, L3, L4, L5, L6, L7, L8, L9, L10, L20, L31, L40, L64, L99, L100, L255, L256, L999, L1000, L99999, ↓reduceIte, L11, L12, L13, L14, L15, L16, L30, L48, L160, K1, K2, K3, K4, K5, K7, K8, K9, K15, K17, K20, K27, K37, K48, K99, K255, inR, isPlace_r, isPlace_c, isSheet_r, pc, bi, hd]
  refine ⟨_, _, m, rfl, ?_, bad⟩
  have iv := fun (a b : Nat) (ha : a < 1000000) (hb : b < 1000000) => in_v hw ha hb m
  have n1 := iv 10 17 (by decide) (by decide)
  have n2 := iv 20 27 (by decide) (by decide)
  have n3 := iv 30 37 (by decide) (by decide)
  by_cases c1 : 10 ≤ w ∧ w ≤ 17
  · rw [if_pos c1] at n1
    simp (disch := omega) only [leT, leF, ltT, ltF, eqT, eqF, inT, n_cl, nI_add, pk_mul, n_div, pk_sub, md8, md2, or_true, true_or, or_false, false_or, Bool.true_eq_false, Bool.false_eq_true, L0, L1, L2, L3, L4, L5, L6, L7, L8, L9, L10, L20, L31, L40, L64, L99, L100, L255, L256, L999, L1000, L99999, ↓reduceIte, L11, L12, L13, L14, L15, L16, L30, L48, L160, K1, K2, K3, K4, K5, K7, K8, K9, K15, K17, K20, K27, K37, K48, K99, K255, inR, isPlace_r, isPlace_c, isSheet_r, K10, K30, n1, bi, pr, hd, ite_self]
  · rw [if_neg c1] at n1
    by_cases c2 : 20 ≤ w ∧ w ≤ 27
    · rw [if_pos c2] at n2
      simp (disch := omega) only [leT, leF, ltT, ltF, eqT, eqF, inT, n_cl, nI_add, pk_mul, n_div, pk_sub, md8, md2, or_true, true_or, or_false, false_or, Bool.true_eq_false, Bool.false_eq_true, L0, L1, L2, L3, L4, L5, L6, L7, L8, L9, L10, L20, L31, L40, L64, L99, L100, L255, L256, L999, L1000, L99999, ↓reduceIte, L11, L12, L13, L14, L15, L16, L30, L48, L160, K1, K2, K3, K4, K5, K7, K8, K9, K15, K17, K20, K27, K37, K48, K99, K255, inR, isPlace_r, isPlace_c, isSheet_r, K10, K30, n1, n2, bi, pr, hd, ite_self]
    · rw [if_neg c2] at n2
      by_cases c3 : 30 ≤ w ∧ w ≤ 37
      · rw [if_pos c3] at n3
        simp (disch := omega) only [leT, leF, ltT, ltF, eqT, eqF, inT, n_cl, nI_add, pk_mul, n_div, pk_sub, md8, md2, or_true, true_or, or_false, false_or, Bool.true_eq_false, Bool.false_eq_true, L0, L1, L2, L3, L4, L5, L6, L7, L8, L9, L10, L20, L31, L40, L64, L99, L100, L255, L256, L999, L1000, L99999, ↓reduceIte, L11, L12, L13, L14, L15, L16, L30, L48, L160, K1, K2, K3, K4, K5, K7, K8, K9, K15, K17, K20, K27, K37, K48, K99, K255, inR, isPlace_r, isPlace_c, isSheet_r, K10, K30, n1, n2, n3, bi, pr, hd, ite_self]
      · rw [if_neg c3] at n3
        by_cases c4 : w < 9
        · simp (disch := omega) only [leT, leF, ltT, ltF, eqT, eqF, inT, n_cl, nI_add, pk_mul, n_div, pk_sub, md8, md2, or_true, true_or, or_false, false_or, Bool.true_eq_false, Bool.false_eq_true, L0, L1, L2, L3, L4, L5, L6, L7, L8, L9, L10, L20, L31, L40, L64, L99, L100, L255, L256, L999, L1000, L99999, ↓reduceIte, L11, L12, L13, L14, L15, L16, L30, L48, L160, K1, K2, K3, K4, K5, K7, K8, K9, K15, K17, K20, K27, K37, K48, K99, K255, inR, isPlace_r, isPlace_c, isSheet_r, K10, K30, n1, n2, n3, bi, pr, hd, ite_self]
        · simp (disch := omega) only [leT, leF, ltT, ltF, eqT, eqF, inT, n_cl, nI_add, pk_mul, n_div, pk_sub, md8, md2, or_true, true_or, or_false, false_or, Bool.true_eq_false, Bool.false_eq_true, L0, L1, L2, L3, L4, L5, L6, L7, L8, L9, L10, L20, L31, L40, L64, L99, L100, L255, L256, L999, L1000, L99999, ↓reduceIte, L11, L12, L13, L14, L15, L16, L30, L48, L160, K1, K2, K3, K4, K5, K7, K8, K9, K15, K17, K20, K27, K37, K48, K99, K255, inR, isPlace_r, isPlace_c, isSheet_r, inF, K10, K30, n1, n2, n3, bi, pr, hd, ite_self]
theorem told_w {p u t : Nat} (hp : p < 6) (h9 : 9 ≤ 10 * u + t) (ht : t < 10) (hw : 10 * u + t < 2147483648) (pc : ∀ x, X9_isPerson x m = some (if inn x (G 0 0) then 1 else 0, m)) (hpp : p < G 0 0) : X9_told nt z (nI p) (nI (10 * u + t)) m = X9_toldOfWay nt z (nI p) (nI u) (nI t) m := by
  have e1 : (10 * u + t) / 10 = u := by omega
  have e2 : 10 * u + t - u * 10 = t := by omega
  unfold X9_told
  simp (disch := omega) only [leT, leF, ltT, ltF, eqT, eqF, inT, n_cl, nI_add, pk_mul, n_div, pk_sub, md8, md2, or_true, true_or, or_false, false_or, Bool.true_eq_false, Bool.false_eq_true, L0, L1, L2, L3, L4, L5, L6, L7, L8, L9, L10, L20, L31, L40, L64, L99, L100, L255, L256, L999, L1000, L99999, ↓reduceIte, pc, bi, e1, e2]
  cases X9_toldOfWay nt z (nI p) (nI u) (nI t) m <;> rfl
theorem told_1 {p t : Nat} (ht : t < 8) (pr : X10_isOne (nI p) m = some (1, m)) : X10_told (nI p) (nI (10 + t)) m = X10_worthOf (nI p) (nI t) m := by
  unfold X10_told X10_told_42 X10_told_47 X10_told_64 X10_told_79
  simp (disch := omega) only [leT, leF, ltT, ltF, eqT, eqF, inT, n_cl, nI_add, pk_mul, n_div, pk_sub, md8, md2, or_true, true_or, or_false, false_or, Bool.true_eq_false, Bool.false_eq_true, L0, L1, L2, L3, L4, L5, L6, L7, L8, L9, L10, L20, L31, L40, L64, L99, L100, L255, L256, L999, L1000, L99999, ↓reduceIte, L11, L12, L13, L14, L15, L16, L30, L48, L160, K1, K2, K3, K4, K5, K7, K8, K9, K15, K17, K20, K27, K37, K48, K99, K255, inR, isPlace_r, isPlace_c, isSheet_r, K10, K30, inAt, inF, bi, pr, Nat.add_sub_cancel_left]
  cases X10_worthOf (nI p) (nI t) m <;> rfl
theorem told_2 {p t : Nat} (ht : t < 8) (pr : X10_isOne (nI p) m = some (1, m)) : X10_told (nI p) (nI (20 + t)) m = X10_timeOf (nI p) (nI t) m := by
  unfold X10_told X10_told_42 X10_told_47 X10_told_64 X10_told_79
  simp (disch := omega) only [leT, leF, ltT, ltF, eqT, eqF, inT, n_cl, nI_add, pk_mul, n_div, pk_sub, md8, md2, or_true, true_or, or_false, false_or, Bool.true_eq_false, Bool.false_eq_true, L0, L1, L2, L3, L4, L5, L6, L7, L8, L9, L10, L20, L31, L40, L64, L99, L100, L255, L256, L999, L1000, L99999, ↓reduceIte, L11, L12, L13, L14, L15, L16, L30, L48, L160, K1, K2, K3, K4, K5, K7, K8, K9, K15, K17, K20, K27, K37, K48, K99, K255, inR, isPlace_r, isPlace_c, isSheet_r, K10, K30, inAt, inAg, inF, bi, pr, Nat.add_sub_cancel_left]
  cases X10_timeOf (nI p) (nI t) m <;> rfl
theorem told_3 {p t : Nat} (ht : t < 8) (pr : X10_isOne (nI p) m = some (1, m)) : X10_told (nI p) (nI (30 + t)) m = bi (X10_takes1 (nI p) (nI t) m) fun r125 m125 => if r125 = 0 then some ((0 : Int32), m125) else some ((1 : Int32), m125) := by
  unfold X10_told X10_told_42 X10_told_47 X10_told_64 X10_told_79
  simp (disch := omega) only [leT, leF, ltT, ltF, eqT, eqF, inT, n_cl, nI_add, pk_mul, n_div, pk_sub, md8, md2, or_true, true_or, or_false, false_or, Bool.true_eq_false, Bool.false_eq_true, L0, L1, L2, L3, L4, L5, L6, L7, L8, L9, L10, L20, L31, L40, L64, L99, L100, L255, L256, L999, L1000, L99999, ↓reduceIte, L11, L12, L13, L14, L15, L16, L30, L48, L160, K1, K2, K3, K4, K5, K7, K8, K9, K15, K17, K20, K27, K37, K48, K99, K255, inR, isPlace_r, isPlace_c, isSheet_r, K10, K30, inAt, inAg, inF, bi, pr, Nat.add_sub_cancel_left]
theorem told_9 {w : Nat} (x : Int32) (hw : w < 2147483648) (h : 9 ≤ w) (h1 : ¬ (10 ≤ w ∧ w ≤ 17)) (h2 : ¬ (20 ≤ w ∧ w ≤ 27)) (h3 : ¬ (30 ≤ w ∧ w ≤ 37)) : X10_told x (nI w) m = some (-nI 2, m) := by
  have n1 : X10_in (nI w).toInt64 (lN 10) (lN 17) m = some (nI 0, m) := by rw [in_v hw (by decide) (by decide), if_neg h1]; rfl
  have n2 : X10_in (nI w).toInt64 (lN 20) (lN 27) m = some (nI 0, m) := by rw [in_v hw (by decide) (by decide), if_neg h2]; rfl
  have n3 : X10_in (nI w).toInt64 (lN 30) (lN 37) m = some (nI 0, m) := by rw [in_v hw (by decide) (by decide), if_neg h3]; rfl
  unfold X10_told X10_told_47
  simp (disch := omega) only [leT, leF, ltT, ltF, eqT, eqF, inT, n_cl, nI_add, pk_mul, n_div, pk_sub, md8, md2, or_true, true_or, or_false, false_or, Bool.true_eq_false, Bool.false_eq_true, L0, L1, L2, L3, L4, L5, L6, L7, L8, L9, L10, L20, L31, L40, L64, L99, L100, L255, L256, L999, L1000, L99999, ↓reduceIte, L11, L12, L13, L14, L15, L16, L30, L48, L160, K1, K2, K3, K4, K5, K7, K8, K9, K15, K17, K20, K27, K37, K48, K99, K255, inR, isPlace_r, isPlace_c, isSheet_r, inF, K10, K30, n1, n2, n3, bi]
theorem told_y {p w : Nat} (hv : ve ≤ c) (hE : CE cd r nt z ve m) (hW : IW cd r rk G H tp n nt m) (hw : w < 2 ^ 31) (h9 : 9 ≤ w) (hp : p < G 0 0) : ∃ (r : Int32) (m1 m2 : Mem), X9_told nt z (nI p) (nI w) m = some (r, m1) ∧ X10_told (nI p) (nI w) m1 = some (r, m2) ∧ Iv (c + 1) nt z m2 := by
  have hW0 := hW
  have bad : Iv (c + 1) nt z m := Iv_0 hv hE hW
  obtain ⟨w1, w2, w3, w4, w5, w6, w7, w8⟩ := hW
  have g0 := w4.1
  have w4' : GO nt 1019 G := GO_up (by decide) w4
  have pc := fun x => isPerson_c g0 x m (w2.1 0 (by decide))
  obtain ⟨u, t, rfl, ht⟩ : ∃ u t, w = 10 * u + t ∧ t < 10 := ⟨w / 10, w % 10, by omega, by omega⟩
  rw [told_w (p := p) (by omega) h9 ht (by omega) pc hp]
  have on : ∀ m1, IW cd r rk G H tp n nt m1 → X10_isOne (nI p) m1 = some (1, m1) := fun m1 W1 => by
    rw [isOne_r g0 _ m1 W1.2.2.1.1, if_pos ((n_inn (by omega)).mpr hp)]
  unfold X9_toldOfWay
  by_cases q9 : t < 8
  · by_cases u1 : u = 1
    · subst u1
      obtain ⟨m1, x1, x2, x3⟩ := worth_c (p := p) (t := t) hE w2 w4' fo5 (by omega) q9
      have W1 := IW_s (SF_x x3) hW0
      obtain ⟨m2, y1, y2⟩ := worth_r (p := p) (t := t) W1.1 W1.2.2.1 w4 hp q9
      simp (disch := omega) only [leT, leF, ltT, ltF, eqT, eqF, inT, n_cl, nI_add, pk_mul, n_div, pk_sub, md8, md2, or_true, true_or, or_false, false_or, Bool.true_eq_false, Bool.false_eq_true, L0, L1, L2, L3, L4, L5, L6, L7, L8, L9, L10, L20, L31, L40, L64, L99, L100, L255, L256, L999, L1000, L99999, ↓reduceIte, L11, L12, L13, L14, L15, L16, L30, L48, L160, K1, K2, K3, K4, K5, K7, K8, K9, K15, K17, K20, K27, K37, K48, K99, K255, inR, isPlace_r, isPlace_c, isSheet_r, bi, x1]
      exact ⟨_, _, _, rfl, (told_1 q9 (on m1 W1)).trans y1, Iv_q hv x2 W1 (SF_a y2) (FRf_a y2)⟩
    · by_cases u2 : u = 2
      · subst u2
        obtain ⟨m1, x1, x2, x3⟩ := time_c (p := p) (t := t) hE w2 w4' fo5 (by omega) q9
        have W1 := IW_s (SF_x x3) hW0
        obtain ⟨m2, y1, y2⟩ := time_r (p := p) (t := t) W1.1 W1.2.2.1 w4 hp q9
        simp (disch := omega) only [leT, leF, ltT, ltF, eqT, eqF, inT, n_cl, nI_add, pk_mul, n_div, pk_sub, md8, md2, or_true, true_or, or_false, false_or, Bool.true_eq_false, Bool.false_eq_true, L0, L1, L2, L3, L4, L5, L6, L7, L8, L9, L10, L20, L31, L40, L64, L99, L100, L255, L256, L999, L1000, L99999, ↓reduceIte, L11, L12, L13, L14, L15, L16, L30, L48, L160, K1, K2, K3, K4, K5, K7, K8, K9, K15, K17, K20, K27, K37, K48, K99, K255, inR, isPlace_r, isPlace_c, isSheet_r, bi, x1]
        exact ⟨_, _, _, rfl, (told_2 q9 (on m1 W1)).trans y1, Iv_q hv x2 W1 (SF_a y2) (FRf_a y2)⟩
      · by_cases u3 : u = 3
        · subst u3
          obtain ⟨m1, x1, x2, x3⟩ := takes_c (p := p) (t := t) hE w2 w4' fo5 (by omega) q9
          have W1 := IW_s (SF_x x3) hW0
          obtain ⟨m2, y1, y2⟩ := takes_r (p := p) (t := t) W1.1 W1.2.2.1 w4 hp q9
          have e3 := told_3 q9 (on m1 W1)
          rw [y1] at e3
          rcases hb : takA cd r G p t with _ | _
          · rw [hb] at x1 e3
            simp (disch := omega) only [leT, leF, ltT, ltF, eqT, eqF, inT, n_cl, nI_add, pk_mul, n_div, pk_sub, md8, md2, or_true, true_or, or_false, false_or, Bool.true_eq_false, Bool.false_eq_true, L0, L1, L2, L3, L4, L5, L6, L7, L8, L9, L10, L20, L31, L40, L64, L99, L100, L255, L256, L999, L1000, L99999, ↓reduceIte, L11, L12, L13, L14, L15, L16, L30, L48, L160, K1, K2, K3, K4, K5, K7, K8, K9, K15, K17, K20, K27, K37, K48, K99, K255, inR, isPlace_r, isPlace_c, isSheet_r, bi, x1, b01]
            exact ⟨_, _, _, rfl, e3, Iv_q hv x2 W1 (SF_a y2) (FRf_a y2)⟩
          · rw [hb] at x1 e3
            simp (disch := omega) only [leT, leF, ltT, ltF, eqT, eqF, inT, n_cl, nI_add, pk_mul, n_div, pk_sub, md8, md2, or_true, true_or, or_false, false_or, Bool.true_eq_false, Bool.false_eq_true, L0, L1, L2, L3, L4, L5, L6, L7, L8, L9, L10, L20, L31, L40, L64, L99, L100, L255, L256, L999, L1000, L99999, ↓reduceIte, L11, L12, L13, L14, L15, L16, L30, L48, L160, K1, K2, K3, K4, K5, K7, K8, K9, K15, K17, K20, K27, K37, K48, K99, K255, inR, isPlace_r, isPlace_c, isSheet_r, bi, x1, b01]
            exact ⟨_, _, _, rfl, e3, Iv_q hv x2 W1 (SF_a y2) (FRf_a y2)⟩
        · simp (disch := omega) only [leT, leF, ltT, ltF, eqT, eqF, inT, n_cl, nI_add, pk_mul, n_div, pk_sub, md8, md2, or_true, true_or, or_false, false_or, Bool.true_eq_false, Bool.false_eq_true, L0, L1, L2, L3, L4, L5, L6, L7, L8, L9, L10, L20, L31, L40, L64, L99, L100, L255, L256, L999, L1000, L99999, ↓reduceIte, L11, L12, L13, L14, L15, L16, L30, L48, L160, K1, K2, K3, K4, K5, K7, K8, K9, K15, K17, K20, K27, K37, K48, K99, K255, inR, isPlace_r, isPlace_c, isSheet_r, bi]
          exact ⟨_, _, _, rfl, told_9 _ (by omega) h9 (by omega) (by omega) (by omega), bad⟩
  · simp (disch := omega) only [leT, leF, ltT, ltF, eqT, eqF, inT, n_cl, nI_add, pk_mul, n_div, pk_sub, md8, md2, or_true, true_or, or_false, false_or, Bool.true_eq_false, Bool.false_eq_true, L0, L1, L2, L3, L4, L5, L6, L7, L8, L9, L10, L20, L31, L40, L64, L99, L100, L255, L256, L999, L1000, L99999, ↓reduceIte, L11, L12, L13, L14, L15, L16, L30, L48, L160, K1, K2, K3, K4, K5, K7, K8, K9, K15, K17, K20, K27, K37, K48, K99, K255, inR, isPlace_r, isPlace_c, isSheet_r, inF, bi]
    exact ⟨_, _, _, rfl, told_9 _ (by omega) h9 (by omega) (by omega) (by omega), bad⟩
theorem told_0 {a1 : Int32} (hv : ve ≤ c) (hE : CE cd r nt z ve m) (hW : IW cd r rk G H tp n nt m) : ∃ (r : Int32) (m1 m2 : Mem), X9_told nt z a1 (nI 0) m = some (r, m1) ∧ X10_told a1 (nI 0) m1 = some (r, m2) ∧ Iv (c + 1) nt z m2 := by
  have hW0 := hW
  have bad : Iv (c + 1) nt z m := Iv_0 hv hE hW
  obtain ⟨w1, w2, w3, w4, w5, w6, w7, w8⟩ := hW
  have g0 := w4.1
  have pc := fun x => isPerson_c g0 x m (w2.1 0 (by decide))
  have pr := fun x => isOne_r g0 x m w3.1
  have s1 := w2.1 1 (by decide)
  have t0 := told0_r w3 a1
  refine ⟨nI (G 0 1), m, m, ?_, t0, bad⟩
  unfold X9_told
  simp (disch := omega) only [leT, leF, ltT, ltF, eqT, eqF, inT, n_cl, nI_add, pk_mul, n_div, pk_sub, md8, md2, or_true, true_or, or_false, false_or, Bool.true_eq_false, Bool.false_eq_true, L0, L1, L2, L3, L4, L5, L6, L7, L8, L9, L10, L20, L31, L40, L64, L99, L100, L255, L256, L999, L1000, L99999, ↓reduceIte, L11, L12, L13, L14, L15, L16, L30, L48, L160, K1, K2, K3, K4, K5, K7, K8, K9, K15, K17, K20, K27, K37, K48, K99, K255, inR, isPlace_r, isPlace_c, isSheet_r, s1]
theorem told_6 {p w : Nat} (hv : ve ≤ c) (hE : CE cd r nt z ve m) (hW : IW cd r rk G H tp n nt m) (q0 : ¬ w = 0) (q6 : w ≤ 6) (hp : p < G 0 0) : ∃ (r : Int32) (m1 m2 : Mem), X9_told nt z (nI p) (nI w) m = some (r, m1) ∧ X10_told (nI p) (nI w) m1 = some (r, m2) ∧ Iv (c + 1) nt z m2 := by
  have hW0 := hW
  have bad : Iv (c + 1) nt z m := Iv_0 hv hE hW
  obtain ⟨w1, w2, w3, w4, w5, w6, w7, w8⟩ := hW
  have g0 := w4.1
  have pc := fun x => isPerson_c g0 x m (w2.1 0 (by decide))
  have pr := fun x => isOne_r g0 x m w3.1
  have s1 := w2.1 1 (by decide)
  have t0 := told_r w3 w4 (w := w) (by omega) (by omega) hp
  have hrv := row_v (f := 5) (w := w) (by omega) q6 m
  have hrb : 1 ≤ rwN w ∧ rwN w ≤ 6 := by unfold rwN; split; omega; split <;> omega
  have sj := w2.2 (rwN w) p hrb.1 hrb.2 (by omega)
  refine ⟨nI (G (rwN w) p), m, m, ?_, t0, bad⟩
  unfold X9_told
  simp (disch := omega) only [leT, leF, ltT, ltF, eqT, eqF, inT, n_cl, nI_add, pk_mul, n_div, pk_sub, md8, md2, or_true, true_or, or_false, false_or, Bool.true_eq_false, Bool.false_eq_true, L0, L1, L2, L3, L4, L5, L6, L7, L8, L9, L10, L20, L31, L40, L64, L99, L100, L255, L256, L999, L1000, L99999, ↓reduceIte, L11, L12, L13, L14, L15, L16, L30, L48, L160, K1, K2, K3, K4, K5, K7, K8, K9, K15, K17, K20, K27, K37, K48, K99, K255, inR, isPlace_r, isPlace_c, isSheet_r, pc, bi, hrv, bq, oq, sj]
theorem told_7 {p : Nat} (hv : ve ≤ c) (hE : CE cd r nt z ve m) (hW : IW cd r rk G H tp n nt m) (hp : p < G 0 0) : ∃ (r : Int32) (m1 m2 : Mem), X9_told nt z (nI p) (nI 7) m = some (r, m1) ∧ X10_told (nI p) (nI 7) m1 = some (r, m2) ∧ Iv (c + 1) nt z m2 := by
  have hW0 := hW
  have bad : Iv (c + 1) nt z m := Iv_0 hv hE hW
  obtain ⟨w1, w2, w3, w4, w5, w6, w7, w8⟩ := hW
  have g0 := w4.1
  have pc := fun x => isPerson_c g0 x m (w2.1 0 (by decide))
  have pr := fun x => isOne_r g0 x m w3.1
  have s1 := w2.1 1 (by decide)
  have h1 := hoard_c fo5 w2 g0 (show p < 6 by omega)
  have h2 := hoard_r w3 g0 (show p < 6 by omega)
  refine ⟨nI (G 4 p) &&& (hoL G p (G 0 0) ^^^ -nI 1), m, m, ?_, ?_, bad⟩
  · unfold X9_told
    simp (disch := omega) only [leT, leF, ltT, ltF, eqT, eqF, inT, n_cl, nI_add, pk_mul, n_div, pk_sub, md8, md2, or_true, true_or, or_false, false_or, Bool.true_eq_false, Bool.false_eq_true, L0, L1, L2, L3, L4, L5, L6, L7, L8, L9, L10, L20, L31, L40, L64, L99, L100, L255, L256, L999, L1000, L99999, ↓reduceIte, L11, L12, L13, L14, L15, L16, L30, L48, L160, K1, K2, K3, K4, K5, K7, K8, K9, K15, K17, K20, K27, K37, K48, K99, K255, inR, isPlace_r, isPlace_c, isSheet_r, pc, bi, h1]
  · unfold X10_told X10_told_47 X10_told_64 X10_told_79
    simp (disch := omega) only [leT, leF, ltT, ltF, eqT, eqF, inT, n_cl, nI_add, pk_mul, n_div, pk_sub, md8, md2, or_true, true_or, or_false, false_or, Bool.true_eq_false, Bool.false_eq_true, L0, L1, L2, L3, L4, L5, L6, L7, L8, L9, L10, L20, L31, L40, L64, L99, L100, L255, L256, L999, L1000, L99999, ↓reduceIte, L11, L12, L13, L14, L15, L16, L30, L48, L160, K1, K2, K3, K4, K5, K7, K8, K9, K15, K17, K20, K27, K37, K48, K99, K255, inR, isPlace_r, isPlace_c, isSheet_r, K10, K30, inAf, pr, bi, h2]
theorem told_8 {p : Nat} (hv : ve ≤ c) (hE : CE cd r nt z ve m) (hW : IW cd r rk G H tp n nt m) (hp : p < G 0 0) : ∃ (r : Int32) (m1 m2 : Mem), X9_told nt z (nI p) (nI 8) m = some (r, m1) ∧ X10_told (nI p) (nI 8) m1 = some (r, m2) ∧ Iv (c + 1) nt z m2 := by
  have hW0 := hW
  have bad : Iv (c + 1) nt z m := Iv_0 hv hE hW
  obtain ⟨w1, w2, w3, w4, w5, w6, w7, w8⟩ := hW
  have g0 := w4.1
  have pc := fun x => isPerson_c g0 x m (w2.1 0 (by decide))
  have pr := fun x => isOne_r g0 x m w3.1
  have s1 := w2.1 1 (by decide)
  obtain ⟨D, hD⟩ := exD (er r) (fun t => bp (nI (G 4 p)) t) (G 3 p)
  have hpl := (w4.2.2.2 p (by omega)).2.2.1
  have hro := hE.2.2.1
  have k9 : m.1 9 p = nI (G 4 p) := w2.2 4 p (by decide) (by decide) (by omega)
  have k8 : m.1 8 p = nI (G 3 p) := w2.2 3 p (by decide) (by decide) (by omega)
  have hok : ∀ t, t < 8 → (fun t => bp (nI (G 4 p)) t) t = bp (nI (G 4 p)) t := fun t _ => rfl
  obtain ⟨m1, x1, x2⟩ := reach_c (x := G 3 p) (kn := nI (G 4 p)) (by omega) hro.1 hro.2 hok hD hE.2.2.2.1
  have W1 := IW_s (SF_4 x2) hW0
  obtain ⟨m2, y1, y3⟩ := reachOf_r (p := p) (kn := nI (G 4 p)) (by omega) (by omega) hro.1 hok hD W1.1.2.2.2.1 (W1.2.2.1.2.2.2.1 p (by omega)).2.2.1 (W1.2.2.1.2.2.2.1 p (by omega)).2.1
  generalize rcB D 8 = V at x1 y1
  have pr1 := fun x => isOne_r g0 x m1 W1.2.2.1.1
  have hE1 : CE cd r nt z ve m1 := CE_fo hE (fun x j _ _ _ _ h => x2.2 x j h) (fun x j _ _ => by rw [x2.1])
  refine ⟨V, m1, m2, ?_, ?_, Iv_q hv hE1 W1 (SF_72 y3) (FRf_c (by decide) y3)⟩
  · unfold X9_told
    simp (disch := omega) only [leT, leF, ltT, ltF, eqT, eqF, inT, n_cl, nI_add, pk_mul, n_div, pk_sub, md8, md2, or_true, true_or, or_false, false_or, Bool.true_eq_false, Bool.false_eq_true, L0, L1, L2, L3, L4, L5, L6, L7, L8, L9, L10, L20, L31, L40, L64, L99, L100, L255, L256, L999, L1000, L99999, ↓reduceIte, L11, L12, L13, L14, L15, L16, L30, L48, L160, K1, K2, K3, K4, K5, K7, K8, K9, K15, K17, K20, K27, K37, K48, K99, K255, inR, isPlace_r, isPlace_c, isSheet_r, pc, bi, k8, k9, x1]
  · have key : ∀ w, w = 8 → X10_told (nI p) (nI w) m1 = some (V, m2) := by
      intro w hw
      unfold X10_told X10_told_47 X10_told_64 X10_told_79
      simp (disch := omega) only [leT, leF, ltT, ltF, eqT, eqF, inT, n_cl, nI_add, pk_mul, n_div, pk_sub, md8, md2, or_true, true_or, or_false, false_or, Bool.true_eq_false, Bool.false_eq_true, L0, L1, L2, L3, L4, L5, L6, L7, L8, L9, L10, L20, L31, L40, L64, L99, L100, L255, L256, L999, L1000, L99999, ↓reduceIte, L11, L12, L13, L14, L15, L16, L30, L48, L160, K1, K2, K3, K4, K5, K7, K8, K9, K15, K17, K20, K27, K37, K48, K99, K255, inR, isPlace_r, isPlace_c, isSheet_r, K10, K30, inAf, pr1, bi, y1]
    exact key 8 rfl
end
theorem o_told : ob_told Iv := by
  rintro c nt z m a1 a2 hc ⟨cd, r, rk, G, H, tp, n, ve, hv, hE, hW⟩
  by_cases hz : a2 < 0
  · exact told_n hv hE hW hz
  · obtain ⟨w, hw, rfl⟩ := nI_of hz
    have g0 := hW.2.2.2.1.1
    by_cases q0 : w = 0
    · subst q0; exact told_0 hv hE hW
    · rcases dich a1 (G 0 0) (by omega) with ⟨p, hp, rfl⟩ | d1
      · by_cases q6 : w ≤ 6
        · exact told_6 hv hE hW q0 q6 hp
        · by_cases q7 : w = 7
          · subst q7; exact told_7 hv hE hW hp
          · by_cases q8 : w = 8
            · subst q8; exact told_8 hv hE hW hp
            · exact told_y hv hE hW hw (by omega) hp
      · exact told_d hv hE hW hw q0 d1
