/-! calls: trade, round, feed, force, walk -/
section
variable {c nt : Nat} {z : Nat → Nat} {m m' : Mem} {cd : Nat → Cd} {r rk : Nat → Nat} {G G' H : Fo} {tp : Nat → Nat} {n ve : Nat}
theorem KP_G (h0 : G 0 0 ≤ G' 0 0) (h1 : ∀ p, p < G 0 0 → G' 1 p = G 1 p) (g : KP nt rk G H m) : KP nt rk G' H m := by
  rcases g with g | ⟨g1, g2, g3, g4, g5, g6, g7, g8, g9⟩
  · exact .inl g
  · exact .inr ⟨g1, g2, g3, g4, g5, g6, g7, by omega, fun p hp => by rw [h1 p (by omega)]; exact g9 p hp⟩
def DuO (x j : Nat) : Prop := x = 0 ∨ 12 ≤ x ∧ x ≤ 22 ∨ 30 ≤ x ∧ x ≤ 35 ∨ 55 ≤ x ∧ x ≤ 62 ∨ x = 63 ∧ (j = 3 ∨ j = 6 ∨ 33 ≤ j ∧ j ≤ 35) ∨ 64 ≤ x ∧ x ≤ 67 ∨ x = 70 ∨ 73 ≤ x ∧ x ≤ 78
theorem IW_fo (hW : IW cd r rk G H tp n nt m) (h5 : RF 5 m' G') (hr : RR m' G') (hG : GO nt 999 G') (h0 : G 0 0 ≤ G' 0 0) (h1 : ∀ p, p < G 0 0 → G' 1 p = G 1 p) (hd : ∀ x j, DuO x j → m'.1 x j = m.1 x j) : IW cd r rk G' H tp n nt m' := by
  obtain ⟨g1, g2, g3, g4, g5, g6, g7, g8⟩ := hW
  unfold DuO at hd
  exact ⟨RE_f (fun x j q => hd x j (by omega)) g1, h5, hr, hG, KP_g (fun x j q => hd x j (by omega)) (KP_G h0 h1 g5), TPE_g (fun x j q => hd x j (by omega)) g6, NTE_g (fun x j q => hd x j (by omega)) g7, fun i hi => SHE_g hi (fun x j q => hd x j (by omega)) (g8 i hi)⟩
theorem RR_m {f : Nat} (hf : f = 5 ∨ f = 23) (h : FrM f m m') (g : RR m G) : RR m' G := RR_f (fun x j q => h.1 x j (by omega) (by omega) (by omega) (by omega) (by omega) (by omega)) g
theorem RE_m {f : Nat} (hf : f = 5 ∨ f = 23) (h : FrM f m m') (g : RE cd r nt m) : RE cd r nt m' := RE_f (fun x j q => h.1 x j (by omega) (by omega) (by omega) (by omega) (by omega) (by omega)) g
theorem RF_rf {f : Nat} (hf : isFo f) (h : FRf m m') (g : RF f m G) : RF f m' G := RF_g (fun x j a b => (h x j (by unfold isFo at hf; omega)).1) g
end
theorem o_trade : ob_trade Iv := by
  rintro c nt z m a1 a2 a3 hc ⟨cd, r, rk, G, H, tp, n, ve, hv, hE, hW⟩
  have hW0 := hW
  obtain ⟨w1, w2, w3, w4, w5, w6, w7, w8⟩ := hW
  have g0 := w4.1
  have pc := fun x => isPerson_c g0 x m (w2.1 0 (by decide))
  have pr := fun x => isOne_r g0 x m w3.1
  unfold X9_trade X9_pays X10_trade
  have bad : Iv (c + 1) nt z m := Iv_0 hv hE hW0
  have n21 : (-nI 2 = -nI 2) = True := eq_true rfl
  rcases dich a1 (G 0 0) (by omega) with ⟨a, ha, rfl⟩ | d1
  · rcases dich a2 (G 0 0) (by omega) with ⟨b, hb, rfl⟩ | d2
    · by_cases hab : a = b
      · simp (disch := omega) only [leT, leF, ltT, ltF, eqT, eqF, inT, n_cl, nI_add, pk_mul, n_div, pk_sub, md8, md2, or_true, true_or, or_false, false_or, Bool.true_eq_false, Bool.false_eq_true, L0, L1, L2, L3, L4, L5, L6, L7, L8, L9, L10, L20, L31, L40, L64, L99, L100, L255, L256, L999, L1000, L99999, ↓reduceIte, L11, L12, L13, L14, L15, L16, L30, L48, L160, K1, K2, K3, K4, K5, K7, K8, K9, K15, K17, K20, K27, K37, K48, K99, K255, inR, isPlace_r, isPlace_c, isSheet_r, pc, bi]
        exact ⟨_, _, _, rfl, by simp (disch := omega) only [leT, leF, ltT, ltF, eqT, eqF, inT, n_cl, nI_add, pk_mul, n_div, pk_sub, md8, md2, or_true, true_or, or_false, false_or, Bool.true_eq_false, Bool.false_eq_true, L0, L1, L2, L3, L4, L5, L6, L7, L8, L9, L10, L20, L31, L40, L64, L99, L100, L255, L256, L999, L1000, L99999, ↓reduceIte, L11, L12, L13, L14, L15, L16, L30, L48, L160, K1, K2, K3, K4, K5, K7, K8, K9, K15, K17, K20, K27, K37, K48, K99, K255, inR, isPlace_r, isPlace_c, isSheet_r, pr, bi], bad⟩
      · rcases dich a3 8 (by decide) with ⟨t, ht, rfl⟩ | d3
        · have w4' : GO nt 1019 G := GO_up (by decide) w4
          obtain ⟨m1, x1, x2, x3⟩ := pay_c (a := a) (b := b) (t := t) hE w2 w4' fo5 (by omega) (by omega)
          have cl := cP_le (cd := cd) (r := r) (b := b) (w4.2.2.2 a (by omega)).2.1
          have hpa := payA_c (cd := cd) (r := r) (G := G) (a := a) (b := b) (t := t)
          have hle : payA cd r G a b t ≤ 8 ∨ payA cd r G a b t = 9 := by rw [hpa]; split <;> omega
          have hE9 := nbI_e (b := payA cd r G a b t) (by omega)
          have hE2 : (nbI (payA cd r G a b t) = -nI 2) = False := by
            apply eq_false
            unfold nbI
            rcases (show payA cd r G a b t = 0 ∨ payA cd r G a b t = 1 ∨ payA cd r G a b t = 2 ∨ payA cd r G a b t = 3 ∨ payA cd r G a b t = 4 ∨ payA cd r G a b t = 5 ∨ payA cd r G a b t = 6 ∨ payA cd r G a b t = 7 ∨ payA cd r G a b t = 8 ∨ payA cd r G a b t = 9 by omega) with h | h | h | h | h | h | h | h | h | h <;> rw [h] <;> decide
          have W1 := IW_s (SF_x x3) hW0
          by_cases q : payA cd r G a b t = 9
          · obtain ⟨m2, y1, y2⟩ := pay_r (a := a) (b := b) (t := t) W1.1 W1.2.2.1 w4 ha hb
            have pr1 := fun x => isOne_r g0 x m1 W1.2.2.1.1
            have hE9' : (nbI 9 = -nI 1) = True := eq_true rfl
            rw [q] at x1 y1 hE2
            simp (disch := omega) only [leT, leF, ltT, ltF, eqT, eqF, inT, n_cl, nI_add, pk_mul, n_div, pk_sub, md8, md2, or_true, true_or, or_false, false_or, Bool.true_eq_false, Bool.false_eq_true, L0, L1, L2, L3, L4, L5, L6, L7, L8, L9, L10, L20, L31, L40, L64, L99, L100, L255, L256, L999, L1000, L99999, ↓reduceIte, L11, L12, L13, L14, L15, L16, L30, L48, L160, K1, K2, K3, K4, K5, K7, K8, K9, K15, K17, K20, K27, K37, K48, K99, K255, inR, isPlace_r, isPlace_c, isSheet_r, pc, bi, x1, hE2, hE9']
            exact ⟨_, _, _, rfl, by simp (disch := omega) only [leT, leF, ltT, ltF, eqT, eqF, inT, n_cl, nI_add, pk_mul, n_div, pk_sub, md8, md2, or_true, true_or, or_false, false_or, Bool.true_eq_false, Bool.false_eq_true, L0, L1, L2, L3, L4, L5, L6, L7, L8, L9, L10, L20, L31, L40, L64, L99, L100, L255, L256, L999, L1000, L99999, ↓reduceIte, L11, L12, L13, L14, L15, L16, L30, L48, L160, K1, K2, K3, K4, K5, K7, K8, K9, K15, K17, K20, K27, K37, K48, K99, K255, inR, isPlace_r, isPlace_c, isSheet_r, pr1, bi, y1, hE9'], Iv_q hv x2 W1 (SF_a y2) (FRf_a y2)⟩
          · have hnb : nbI (payA cd r G a b t) = nI (payA cd r G a b t) := by unfold nbI; rw [if_neg q]
            obtain ⟨m2, e1, e2, e3, e4⟩ := deal_c (a := a) (b := b) (t := t) (pay := payA cd r G a b t) x2 W1.2.1 w4' fo5 (by omega) (by omega) hab ht (by omega)
            have R2 := RR_m (.inl rfl) e4 W1.2.2.1
            have E2 := RE_m (.inl rfl) e4 W1.1
            obtain ⟨m3, y1, y2⟩ := pay_r (a := a) (b := b) (t := t) E2 R2 w4 ha hb
            obtain ⟨m4, z1, z2, z3⟩ := deal_r (a := a) (b := b) (t := t) (pay := payA cd r G a b t) (FrA_re y2 E2) (FrA_rr y2 R2) w4 ha hb hab ht (by omega)
            have pr1 := fun x => isOne_r g0 x m2 R2.1
            rw [hnb] at x1 y1 hE2 hE9
            have fr := FRf_t (FRf_a y2) (FRf_tt z3)
            simp (disch := omega) only [leT, leF, ltT, ltF, eqT, eqF, inT, n_cl, nI_add, pk_mul, n_div, pk_sub, md8, md2, or_true, true_or, or_false, false_or, Bool.true_eq_false, Bool.false_eq_true, L0, L1, L2, L3, L4, L5, L6, L7, L8, L9, L10, L20, L31, L40, L64, L99, L100, L255, L256, L999, L1000, L99999, ↓reduceIte, L11, L12, L13, L14, L15, L16, L30, L48, L160, K1, K2, K3, K4, K5, K7, K8, K9, K15, K17, K20, K27, K37, K48, K99, K255, inR, isPlace_r, isPlace_c, isSheet_r, pc, bi, x1, hE2, hE9, q, e1, bv]
            refine ⟨_, _, _, rfl, by simp (disch := omega) only [leT, leF, ltT, ltF, eqT, eqF, inT, n_cl, nI_add, pk_mul, n_div, pk_sub, md8, md2, or_true, true_or, or_false, false_or, Bool.true_eq_false, Bool.false_eq_true, L0, L1, L2, L3, L4, L5, L6, L7, L8, L9, L10, L20, L31, L40, L64, L99, L100, L255, L256, L999, L1000, L99999, ↓reduceIte, L11, L12, L13, L14, L15, L16, L30, L48, L160, K1, K2, K3, K4, K5, K7, K8, K9, K15, K17, K20, K27, K37, K48, K99, K255, inR, isPlace_r, isPlace_c, isSheet_r, pr1, bi, y1, hE9, q, z1, bv], cd, r, rk, dealA cd r G a b t (payA cd r G a b t), H, tp, n, ve, by omega, CE_rf fr e2, IW_fo W1 (RF_rf fo5 fr e3) z2 (deal_o w4 (by omega) (by omega) ht (by omega)) (by rw [deal_s 0 0 (by decide) (by decide)]; omega) (fun p _ => deal_s 1 p (by decide) (by decide)) ?_⟩
            intro x j q
            unfold DuO at q
            rw [z3.1 x j (by omega) (by omega), y2.1 x j (by omega), e4.1 x j (by omega) (by omega) (by omega) (by omega) (by omega) (by omega)]
        · simp (disch := omega) only [leT, leF, ltT, ltF, eqT, eqF, inT, n_cl, nI_add, pk_mul, n_div, pk_sub, md8, md2, or_true, true_or, or_false, false_or, Bool.true_eq_false, Bool.false_eq_true, L0, L1, L2, L3, L4, L5, L6, L7, L8, L9, L10, L20, L31, L40, L64, L99, L100, L255, L256, L999, L1000, L99999, ↓reduceIte, L11, L12, L13, L14, L15, L16, L30, L48, L160, K1, K2, K3, K4, K5, K7, K8, K9, K15, K17, K20, K27, K37, K48, K99, K255, inR, isPlace_r, isPlace_c, isSheet_r, pc, bi, d3.1]
          exact ⟨_, _, _, rfl, by simp (disch := omega) only [leT, leF, ltT, ltF, eqT, eqF, inT, n_cl, nI_add, pk_mul, n_div, pk_sub, md8, md2, or_true, true_or, or_false, false_or, Bool.true_eq_false, Bool.false_eq_true, L0, L1, L2, L3, L4, L5, L6, L7, L8, L9, L10, L20, L31, L40, L64, L99, L100, L255, L256, L999, L1000, L99999, ↓reduceIte, L11, L12, L13, L14, L15, L16, L30, L48, L160, K1, K2, K3, K4, K5, K7, K8, K9, K15, K17, K20, K27, K37, K48, K99, K255, inR, isPlace_r, isPlace_c, isSheet_r, pr, bi, d3.1], bad⟩
    · simp (disch := omega) only [leT, leF, ltT, ltF, eqT, eqF, inT, n_cl, nI_add, pk_mul, n_div, pk_sub, md8, md2, or_true, true_or, or_false, false_or, Bool.true_eq_false, Bool.false_eq_true, L0, L1, L2, L3, L4, L5, L6, L7, L8, L9, L10, L20, L31, L40, L64, L99, L100, L255, L256, L999, L1000, L99999, ↓reduceIte, L11, L12, L13, L14, L15, L16, L30, L48, L160, K1, K2, K3, K4, K5, K7, K8, K9, K15, K17, K20, K27, K37, K48, K99, K255, inR, isPlace_r, isPlace_c, isSheet_r, pc, bi, d2.1]
      exact ⟨_, _, _, rfl, by simp (disch := omega) only [leT, leF, ltT, ltF, eqT, eqF, inT, n_cl, nI_add, pk_mul, n_div, pk_sub, md8, md2, or_true, true_or, or_false, false_or, Bool.true_eq_false, Bool.false_eq_true, L0, L1, L2, L3, L4, L5, L6, L7, L8, L9, L10, L20, L31, L40, L64, L99, L100, L255, L256, L999, L1000, L99999, ↓reduceIte, L11, L12, L13, L14, L15, L16, L30, L48, L160, K1, K2, K3, K4, K5, K7, K8, K9, K15, K17, K20, K27, K37, K48, K99, K255, inR, isPlace_r, isPlace_c, isSheet_r, pr, bi, d2.1], bad⟩
  · simp (disch := omega) only [leT, leF, ltT, ltF, eqT, eqF, inT, n_cl, nI_add, pk_mul, n_div, pk_sub, md8, md2, or_true, true_or, or_false, false_or, Bool.true_eq_false, Bool.false_eq_true, L0, L1, L2, L3, L4, L5, L6, L7, L8, L9, L10, L20, L31, L40, L64, L99, L100, L255, L256, L999, L1000, L99999, ↓reduceIte, L11, L12, L13, L14, L15, L16, L30, L48, L160, K1, K2, K3, K4, K5, K7, K8, K9, K15, K17, K20, K27, K37, K48, K99, K255, inR, isPlace_r, isPlace_c, isSheet_r, pc, bi, d1.1]
    exact ⟨_, _, _, rfl, by simp (disch := omega) only [leT, leF, ltT, ltF, eqT, eqF, inT, n_cl, nI_add, pk_mul, n_div, pk_sub, md8, md2, or_true, true_or, or_false, false_or, Bool.true_eq_false, Bool.false_eq_true, L0, L1, L2, L3, L4, L5, L6, L7, L8, L9, L10, L20, L31, L40, L64, L99, L100, L255, L256, L999, L1000, L99999, ↓reduceIte, L11, L12, L13, L14, L15, L16, L30, L48, L160, K1, K2, K3, K4, K5, K7, K8, K9, K15, K17, K20, K27, K37, K48, K99, K255, inR, isPlace_r, isPlace_c, isSheet_r, pr, bi, d1.1], bad⟩
theorem o_round : ob_round Iv := by
  rintro c nt z m hc ⟨cd, r, rk, G, H, tp, n, ve, hv, hE, hW⟩
  have hW0 := hW
  obtain ⟨w1, w2, w3, w4, w5, w6, w7, w8⟩ := hW
  have s1 := w2.1 1 (by decide)
  have s2 := w3.2.1
  have g1 := w4.2.1
  unfold X9_round X10_round
  by_cases q : G 0 1 = 999
  · simp (disch := omega) only [leT, leF, ltT, ltF, eqT, eqF, inT, n_cl, nI_add, pk_mul, n_div, pk_sub, md8, md2, or_true, true_or, or_false, false_or, Bool.true_eq_false, Bool.false_eq_true, L0, L1, L2, L3, L4, L5, L6, L7, L8, L9, L10, L20, L31, L40, L64, L99, L100, L255, L256, L999, L1000, L99999, ↓reduceIte, L11, L12, L13, L14, L15, L16, L30, L48, L160, K1, K2, K3, K4, K5, K7, K8, K9, K15, K17, K20, K27, K37, K48, K99, K255, inR, isPlace_r, isPlace_c, isSheet_r, s1]
    exact ⟨_, _, _, rfl, by simp (disch := omega) only [leT, leF, ltT, ltF, eqT, eqF, inT, n_cl, nI_add, pk_mul, n_div, pk_sub, md8, md2, or_true, true_or, or_false, false_or, Bool.true_eq_false, Bool.false_eq_true, L0, L1, L2, L3, L4, L5, L6, L7, L8, L9, L10, L20, L31, L40, L64, L99, L100, L255, L256, L999, L1000, L99999, ↓reduceIte, L11, L12, L13, L14, L15, L16, L30, L48, L160, K1, K2, K3, K4, K5, K7, K8, K9, K15, K17, K20, K27, K37, K48, K99, K255, inR, isPlace_r, isPlace_c, isSheet_r, s2], Iv_0 hv hE hW0⟩
  · have w4' : GO nt (G 0 1) G := ⟨w4.1, Nat.le_refl _, w4.2.2⟩
    obtain ⟨m1, i', x1, x2, x3, x4, x5, x6, x7⟩ := rounds_c (bu := 9) (k := 1) hE w2 fo5 w4' (by decide) (by omega) (by decide)
    have hi : i' = 1 := by omega
    subst hi
    have R2 := RR_m (.inl rfl) x5 w3
    have E2 := RE_m (.inl rfl) x5 w1
    obtain ⟨m2, y1, y2, y3⟩ := passes_r (bu := 9) E2 R2 w4' (by decide)
    have e1 : (rdA cd r 9 G 1).1 = (passA cd r 9 G).1 := by show 0 + (passA cd r 9 G).1 = _; omega
    have e2 : (rdA cd r 9 G 1).2 = (passA cd r 9 G).2 := rfl
    rw [e1] at x1
    rw [e2] at x3
    have x1' : X2_rounds nt z 5 (nI 1) (-nI 1) m = some (nI (passA cd r 9 G).1, m1) := x1
    have y1' : X10_passes (-nI 1) m1 = some (nI (passA cd r 9 G).1, m2) := y1
    have s2' := R2.2.1
    obtain ⟨i1, i2, i3, i4⟩ := passA_i (cd := cd) (r := r) (bu := 9) w4'
    simp (disch := omega) only [leT, leF, ltT, ltF, eqT, eqF, inT, n_cl, nI_add, pk_mul, n_div, pk_sub, md8, md2, or_true, true_or, or_false, false_or, Bool.true_eq_false, Bool.false_eq_true, L0, L1, L2, L3, L4, L5, L6, L7, L8, L9, L10, L20, L31, L40, L64, L99, L100, L255, L256, L999, L1000, L99999, ↓reduceIte, L11, L12, L13, L14, L15, L16, L30, L48, L160, K1, K2, K3, K4, K5, K7, K8, K9, K15, K17, K20, K27, K37, K48, K99, K255, inR, isPlace_r, isPlace_c, isSheet_r, s1, x1', bi]
    refine ⟨_, _, _, rfl, by simp (disch := omega) only [leT, leF, ltT, ltF, eqT, eqF, inT, n_cl, nI_add, pk_mul, n_div, pk_sub, md8, md2, or_true, true_or, or_false, false_or, Bool.true_eq_false, Bool.false_eq_true, L0, L1, L2, L3, L4, L5, L6, L7, L8, L9, L10, L20, L31, L40, L64, L99, L100, L255, L256, L999, L1000, L99999, ↓reduceIte, L11, L12, L13, L14, L15, L16, L30, L48, L160, K1, K2, K3, K4, K5, K7, K8, K9, K15, K17, K20, K27, K37, K48, K99, K255, inR, isPlace_r, isPlace_c, isSheet_r, s2', y1', bi], cd, r, rk, (passA cd r 9 G).2, H, tp, n, ve, by omega, CE_rf (FRf_tt y3) x2, IW_fo hW0 (RF_rf fo5 (FRf_tt y3) x3) y2 (GO_up (by omega) i1) (by rw [i4 0 0 (by decide) (by decide) (by omega)]; omega) (fun p _ => i4 1 p (by decide) (by decide) (by omega)) ?_⟩
    intro x j q
    unfold DuO at q
    rw [y3.1 x j (by omega) (by omega), x5.1 x j (by omega) (by omega) (by omega) (by omega) (by omega) (by omega)]
theorem o_walk : ob_walk Iv := by
  rintro c nt z m a1 a2 a3 hc ⟨cd, r, rk, G, H, tp, n, ve, hv, hE, hW⟩
  have hW0 := hW
  obtain ⟨w1, w2, w3, w4, w5, w6, w7, w8⟩ := hW
  have g0 := w4.1
  have pc := fun x => isPerson_c g0 x m (w2.1 0 (by decide))
  have pr := fun x => isOne_r g0 x m w3.1
  unfold X9_walk X10_walk
  have bad : Iv (c + 1) nt z m := Iv_0 hv hE hW0
  rcases dich a1 (G 0 0) (by omega) with ⟨a, ha, rfl⟩ | d1
  · rcases dich a2 8 (by decide) with ⟨x, hx, rfl⟩ | d2
    · rcases dich a3 8 (by decide) with ⟨y, hy, rfl⟩ | d3
      · obtain ⟨D, hD⟩ := exD (er r) (fun t => bp (nI (G 4 a)) t) x
        have hro := hE.2.2.1
        have k9 : m.1 9 a = nI (G 4 a) := w2.2 4 a (by decide) (by decide) (by omega)
        obtain ⟨m1, x1, x2⟩ := walked_c (y := y) hx hy hro.1 hro.2 (fun t _ => rfl) hD hE.2.2.2.1
        have W1 := IW_s (SF_4 x2) hW0
        obtain ⟨m2, y1, y2, y3⟩ := walks_r (p := a) (kn := nI (G 4 a)) (by omega) hx hro.1 (fun t _ => rfl) hD W1.1.2.2.2.1 (W1.2.2.1.2.2.2.1 a (by omega)).2.2.1
        have pr1 := fun x => isOne_r g0 x m1 W1.2.2.1.1
        have e := y2 y hy
        have hle := (hD.1.2 y hy).1
        have fr : FRf m1 m2 := FRf_c (by decide) y3
        have hE1 : CE cd r nt z ve m1 := CE_fo hE (fun x j _ _ _ _ h => x2.2 x j h) (fun x j _ _ => by rw [x2.1])
        by_cases q : D y = 999
        · rw [if_pos q] at x1
          simp (disch := omega) only [leT, leF, ltT, ltF, eqT, eqF, inT, n_cl, nI_add, pk_mul, n_div, pk_sub, md8, md2, or_true, true_or, or_false, false_or, Bool.true_eq_false, Bool.false_eq_true, L0, L1, L2, L3, L4, L5, L6, L7, L8, L9, L10, L20, L31, L40, L64, L99, L100, L255, L256, L999, L1000, L99999, ↓reduceIte, L11, L12, L13, L14, L15, L16, L30, L48, L160, K1, K2, K3, K4, K5, K7, K8, K9, K15, K17, K20, K27, K37, K48, K99, K255, inR, isPlace_r, isPlace_c, isSheet_r, pc, bi, k9, x1]
          exact ⟨_, _, _, rfl, by simp (disch := omega) only [leT, leF, ltT, ltF, eqT, eqF, inT, n_cl, nI_add, pk_mul, n_div, pk_sub, md8, md2, or_true, true_or, or_false, false_or, Bool.true_eq_false, Bool.false_eq_true, L0, L1, L2, L3, L4, L5, L6, L7, L8, L9, L10, L20, L31, L40, L64, L99, L100, L255, L256, L999, L1000, L99999, ↓reduceIte, L11, L12, L13, L14, L15, L16, L30, L48, L160, K1, K2, K3, K4, K5, K7, K8, K9, K15, K17, K20, K27, K37, K48, K99, K255, inR, isPlace_r, isPlace_c, isSheet_r, pr1, bi, bv, y1, e], Iv_q hv hE1 W1 (SF_72 y3) fr⟩
        · rw [if_neg q] at x1
          simp (disch := omega) only [leT, leF, ltT, ltF, eqT, eqF, inT, n_cl, nI_add, pk_mul, n_div, pk_sub, md8, md2, or_true, true_or, or_false, false_or, Bool.true_eq_false, Bool.false_eq_true, L0, L1, L2, L3, L4, L5, L6, L7, L8, L9, L10, L20, L31, L40, L64, L99, L100, L255, L256, L999, L1000, L99999, ↓reduceIte, L11, L12, L13, L14, L15, L16, L30, L48, L160, K1, K2, K3, K4, K5, K7, K8, K9, K15, K17, K20, K27, K37, K48, K99, K255, inR, isPlace_r, isPlace_c, isSheet_r, pc, bi, k9, x1]
          exact ⟨_, _, _, rfl, by simp (disch := omega) only [leT, leF, ltT, ltF, eqT, eqF, inT, n_cl, nI_add, pk_mul, n_div, pk_sub, md8, md2, or_true, true_or, or_false, false_or, Bool.true_eq_false, Bool.false_eq_true, L0, L1, L2, L3, L4, L5, L6, L7, L8, L9, L10, L20, L31, L40, L64, L99, L100, L255, L256, L999, L1000, L99999, ↓reduceIte, L11, L12, L13, L14, L15, L16, L30, L48, L160, K1, K2, K3, K4, K5, K7, K8, K9, K15, K17, K20, K27, K37, K48, K99, K255, inR, isPlace_r, isPlace_c, isSheet_r, pr1, bi, bv, y1, e], Iv_q hv hE1 W1 (SF_72 y3) fr⟩
      · simp (disch := omega) only [leT, leF, ltT, ltF, eqT, eqF, inT, n_cl, nI_add, pk_mul, n_div, pk_sub, md8, md2, or_true, true_or, or_false, false_or, Bool.true_eq_false, Bool.false_eq_true, L0, L1, L2, L3, L4, L5, L6, L7, L8, L9, L10, L20, L31, L40, L64, L99, L100, L255, L256, L999, L1000, L99999, ↓reduceIte, L11, L12, L13, L14, L15, L16, L30, L48, L160, K1, K2, K3, K4, K5, K7, K8, K9, K15, K17, K20, K27, K37, K48, K99, K255, inR, isPlace_r, isPlace_c, isSheet_r, pc, bi, d3.1]
        exact ⟨_, _, _, rfl, by simp (disch := omega) only [leT, leF, ltT, ltF, eqT, eqF, inT, n_cl, nI_add, pk_mul, n_div, pk_sub, md8, md2, or_true, true_or, or_false, false_or, Bool.true_eq_false, Bool.false_eq_true, L0, L1, L2, L3, L4, L5, L6, L7, L8, L9, L10, L20, L31, L40, L64, L99, L100, L255, L256, L999, L1000, L99999, ↓reduceIte, L11, L12, L13, L14, L15, L16, L30, L48, L160, K1, K2, K3, K4, K5, K7, K8, K9, K15, K17, K20, K27, K37, K48, K99, K255, inR, isPlace_r, isPlace_c, isSheet_r, pr, bi, d3.1], bad⟩
    · simp (disch := omega) only [leT, leF, ltT, ltF, eqT, eqF, inT, n_cl, nI_add, pk_mul, n_div, pk_sub, md8, md2, or_true, true_or, or_false, false_or, Bool.true_eq_false, Bool.false_eq_true, L0, L1, L2, L3, L4, L5, L6, L7, L8, L9, L10, L20, L31, L40, L64, L99, L100, L255, L256, L999, L1000, L99999, ↓reduceIte, L11, L12, L13, L14, L15, L16, L30, L48, L160, K1, K2, K3, K4, K5, K7, K8, K9, K15, K17, K20, K27, K37, K48, K99, K255, inR, isPlace_r, isPlace_c, isSheet_r, pc, bi, d2.1]
      exact ⟨_, _, _, rfl, by simp (disch := omega) only [leT, leF, ltT, ltF, eqT, eqF, inT, n_cl, nI_add, pk_mul, n_div, pk_sub, md8, md2, or_true, true_or, or_false, false_or, Bool.true_eq_false, Bool.false_eq_true, L0, L1, L2, L3, L4, L5, L6, L7, L8, L9, L10, L20, L31, L40, L64, L99, L100, L255, L256, L999, L1000, L99999, ↓reduceIte, L11, L12, L13, L14, L15, L16, L30, L48, L160, K1, K2, K3, K4, K5, K7, K8, K9, K15, K17, K20, K27, K37, K48, K99, K255, inR, isPlace_r, isPlace_c, isSheet_r, pr, bi, d2.1], bad⟩
  · simp (disch := omega) only [leT, leF, ltT, ltF, eqT, eqF, inT, n_cl, nI_add, pk_mul, n_div, pk_sub, md8, md2, or_true, true_or, or_false, false_or, Bool.true_eq_false, Bool.false_eq_true, L0, L1, L2, L3, L4, L5, L6, L7, L8, L9, L10, L20, L31, L40, L64, L99, L100, L255, L256, L999, L1000, L99999, ↓reduceIte, L11, L12, L13, L14, L15, L16, L30, L48, L160, K1, K2, K3, K4, K5, K7, K8, K9, K15, K17, K20, K27, K37, K48, K99, K255, inR, isPlace_r, isPlace_c, isSheet_r, pc, bi, d1.1]
    exact ⟨_, _, _, rfl, by simp (disch := omega) only [leT, leF, ltT, ltF, eqT, eqF, inT, n_cl, nI_add, pk_mul, n_div, pk_sub, md8, md2, or_true, true_or, or_false, false_or, Bool.true_eq_false, Bool.false_eq_true, L0, L1, L2, L3, L4, L5, L6, L7, L8, L9, L10, L20, L31, L40, L64, L99, L100, L255, L256, L999, L1000, L99999, ↓reduceIte, L11, L12, L13, L14, L15, L16, L30, L48, L160, K1, K2, K3, K4, K5, K7, K8, K9, K15, K17, K20, K27, K37, K48, K99, K255, inR, isPlace_r, isPlace_c, isSheet_r, pr, bi, d1.1], bad⟩
