/-! calls: all -/
def alL (G : Fo) : Nat → Int32
  | 0 => nI 255
  | p + 1 => alL G p &&& nI (G 4 p)
section
variable {c nt ve f R bu n w k : Nat} {z : Nat → Nat} {m ma mb : Mem} {G G' H : Fo} {cd : Nat → Cd} {r rk : Nat → Nat} {tp : Nat → Nat}
theorem all_c (hR : RF f m G) (h6 : G 0 0 ≤ 6) : ∀ n b, b ≤ G 0 0 → G 0 0 - b < n → X0_knownByAll_6 f n (alL G b) (nI b) m = some (alL G (G 0 0), m) := by
  intro n
  induction n with
  | zero => intro b _ h; omega
  | succ n ih =>
    intro b hb hn
    have s0 := hR.1 0 (by decide)
    rw [X0_knownByAll_6]
    by_cases h8 : b = G 0 0
    · simp (disch := omega) only [leT, leF, ltT, ltF, eqT, eqF, inT, n_cl, nI_add, pk_mul, n_div, pk_sub, md8, md2, or_true, true_or, or_false, false_or, Bool.true_eq_false, Bool.false_eq_true, L0, L1, L2, L3, L4, L5, L6, L7, L8, L9, L10, L20, L31, L40, L64, L99, L100, L255, L256, L999, L1000, L99999, ↓reduceIte, s0, h8]
    · have s4 := hR.2 4 b (by decide) (by decide) (by omega)
      have hi := ih (b + 1) (by omega) (by omega)
      rw [alL] at hi
      simp (disch := omega) only [leT, leF, ltT, ltF, eqT, eqF, inT, n_cl, nI_add, pk_mul, n_div, pk_sub, md8, md2, or_true, true_or, or_false, false_or, Bool.true_eq_false, Bool.false_eq_true, L0, L1, L2, L3, L4, L5, L6, L7, L8, L9, L10, L20, L31, L40, L64, L99, L100, L255, L256, L999, L1000, L99999, ↓reduceIte, s0, s4]
      exact hi
theorem all_r (hR : RR m G) (hG : GO nt R G) (hw : w < 3) : ∀ n b, b ≤ G 0 0 → G 0 0 - b < n → X10_all_53 n (nI w) (hoL G 9 b) (alL G b) (nI b) m = some (if w = 0 then nI (wyS G 9 (G 0 0)) else if w = 1 then hoL G 9 (G 0 0) else alL G (G 0 0), m) := by
  have h6 := hG.1
  intro n
  induction n with
  | zero => intro b _ h; omega
  | succ n ih =>
    intro b hb hn
    have s0 := hR.1
    rw [X10_all_53]
    by_cases h8 : b = G 0 0
    · have u := known_r hR hG
      by_cases w0 : w = 0
      · simp (disch := omega) only [leT, leF, ltT, ltF, eqT, eqF, inT, n_cl, nI_add, pk_mul, n_div, pk_sub, md8, md2, or_true, true_or, or_false, false_or, Bool.true_eq_false, Bool.false_eq_true, L0, L1, L2, L3, L4, L5, L6, L7, L8, L9, L10, L20, L31, L40, L64, L99, L100, L255, L256, L999, L1000, L99999, ↓reduceIte, L11, L12, L13, L14, L15, L16, L30, L48, L160, K1, K2, K3, K4, K5, K7, K8, K9, K15, K17, K20, K27, K37, K48, K99, K255, inR, isPlace_r, isPlace_c, isSheet_r, s0, h8, u, bi, w0]
      · by_cases w1 : w = 1
        · simp (disch := omega) only [leT, leF, ltT, ltF, eqT, eqF, inT, n_cl, nI_add, pk_mul, n_div, pk_sub, md8, md2, or_true, true_or, or_false, false_or, Bool.true_eq_false, Bool.false_eq_true, L0, L1, L2, L3, L4, L5, L6, L7, L8, L9, L10, L20, L31, L40, L64, L99, L100, L255, L256, L999, L1000, L99999, ↓reduceIte, L11, L12, L13, L14, L15, L16, L30, L48, L160, K1, K2, K3, K4, K5, K7, K8, K9, K15, K17, K20, K27, K37, K48, K99, K255, inR, isPlace_r, isPlace_c, isSheet_r, s0, h8, w1, show ¬ (1 = 0) by decide]
        · simp (disch := omega) only [leT, leF, ltT, ltF, eqT, eqF, inT, n_cl, nI_add, pk_mul, n_div, pk_sub, md8, md2, or_true, true_or, or_false, false_or, Bool.true_eq_false, Bool.false_eq_true, L0, L1, L2, L3, L4, L5, L6, L7, L8, L9, L10, L20, L31, L40, L64, L99, L100, L255, L256, L999, L1000, L99999, ↓reduceIte, L11, L12, L13, L14, L15, L16, L30, L48, L160, K1, K2, K3, K4, K5, K7, K8, K9, K15, K17, K20, K27, K37, K48, K99, K255, inR, isPlace_r, isPlace_c, isSheet_r, s0, h8, w0, w1]
    · have s4 := (hR.2.2.2.1 b (by omega)).2.2.1
      have hi := ih (b + 1) (by omega) (by omega)
      rw [alL, hoL, if_neg (by omega)] at hi
      simp (disch := omega) only [leT, leF, ltT, ltF, eqT, eqF, inT, n_cl, nI_add, pk_mul, n_div, pk_sub, md8, md2, or_true, true_or, or_false, false_or, Bool.true_eq_false, Bool.false_eq_true, L0, L1, L2, L3, L4, L5, L6, L7, L8, L9, L10, L20, L31, L40, L64, L99, L100, L255, L256, L999, L1000, L99999, ↓reduceIte, L11, L12, L13, L14, L15, L16, L30, L48, L160, K1, K2, K3, K4, K5, K7, K8, K9, K15, K17, K20, K27, K37, K48, K99, K255, inR, isPlace_r, isPlace_c, isSheet_r, s0, knows_r (show b < 6 by omega), bi, s4]
      exact hi
theorem all3 (hv : ve ≤ c) (hE : CE cd r nt z ve m) (hW : IW cd r rk G H tp n nt m) (h3 : w = 3) : ∃ (r : Int32) (m1 m2 : Mem), X9_all nt z (nI w) m = some (r, m1) ∧ X10_all (nI w) m1 = some (r, m2) ∧ Iv (c + 1) nt z m2 := by
  have hG := hW.2.2.2.1
  obtain ⟨mt, t1, t2, t3, t4⟩ := think_c hE hW.2.1
  obtain ⟨m1, i', x1, x2, x3, x4, x5, x6, x7⟩ := rounds_c (bu := 9) (k := 1) t3 t2 fo23 hG (by decide) (by decide) (by decide)
  have x1' : X2_rounds nt z 23 (nI 1) (-nI 1) mt = some (nI (rdA cd r 9 G 1).1, m1) := x1
  have sf : SF m m1 := SF_t t4 (SF_m x5)
  have W1 := IW_s sf hW
  obtain ⟨ma, a1, a2, a3⟩ := aside_r m1 W1.2.2.1
  obtain ⟨mp, y1, y2, y3⟩ := passes_r (bu := 9) (Asd_re a2 W1.1) a3 hG (by decide)
  have y1' : X10_passes (-nI 1) ma = some (nI (passA cd r 9 G).1, mp) := y1
  obtain ⟨mb, b1, b2, b3⟩ := back_r (Asd_t a2 y3) W1.2.2.1
  have e1 : (rdA cd r 9 G 1).1 = (passA cd r 9 G).1 := by show 0 + (passA cd r 9 G).1 = _; omega
  have hl := (passA_i (cd := cd) (r := r) (bu := 9) hG).2.1
  rw [e1] at x1'
  refine ⟨nI (if (passA cd r 9 G).1 = 0 then 1 else 0), m1, mb, ?_, ?_, Iv_b hv x2 W1 b2 b3⟩
  · unfold X9_all
    by_cases q : (passA cd r 9 G).1 = 0
    · simp (disch := omega) only [leT, leF, ltT, ltF, eqT, eqF, inT, n_cl, nI_add, pk_mul, n_div, pk_sub, md8, md2, or_true, true_or, or_false, false_or, Bool.true_eq_false, Bool.false_eq_true, L0, L1, L2, L3, L4, L5, L6, L7, L8, L9, L10, L20, L31, L40, L64, L99, L100, L255, L256, L999, L1000, L99999, ↓reduceIte, L11, L12, L13, L14, L15, L16, L30, L48, L160, K1, K2, K3, K4, K5, K7, K8, K9, K15, K17, K20, K27, K37, K48, K99, K255, inR, isPlace_r, isPlace_c, isSheet_r, t1, bv, bi, x1', q]
    · simp (disch := omega) only [leT, leF, ltT, ltF, eqT, eqF, inT, n_cl, nI_add, pk_mul, n_div, pk_sub, md8, md2, or_true, true_or, or_false, false_or, Bool.true_eq_false, Bool.false_eq_true, L0, L1, L2, L3, L4, L5, L6, L7, L8, L9, L10, L20, L31, L40, L64, L99, L100, L255, L256, L999, L1000, L99999, ↓reduceIte, L11, L12, L13, L14, L15, L16, L30, L48, L160, K1, K2, K3, K4, K5, K7, K8, K9, K15, K17, K20, K27, K37, K48, K99, K255, inR, isPlace_r, isPlace_c, isSheet_r, t1, bv, bi, x1', q]
  · unfold X10_all
    by_cases q : (passA cd r 9 G).1 = 0
    · simp (disch := omega) only [leT, leF, ltT, ltF, eqT, eqF, inT, n_cl, nI_add, pk_mul, n_div, pk_sub, md8, md2, or_true, true_or, or_false, false_or, Bool.true_eq_false, Bool.false_eq_true, L0, L1, L2, L3, L4, L5, L6, L7, L8, L9, L10, L20, L31, L40, L64, L99, L100, L255, L256, L999, L1000, L99999, ↓reduceIte, L11, L12, L13, L14, L15, L16, L30, L48, L160, K1, K2, K3, K4, K5, K7, K8, K9, K15, K17, K20, K27, K37, K48, K99, K255, inR, isPlace_r, isPlace_c, isSheet_r, bi, bv, a1, y1', b1, q]
    · simp (disch := omega) only [leT, leF, ltT, ltF, eqT, eqF, inT, n_cl, nI_add, pk_mul, n_div, pk_sub, md8, md2, or_true, true_or, or_false, false_or, Bool.true_eq_false, Bool.false_eq_true, L0, L1, L2, L3, L4, L5, L6, L7, L8, L9, L10, L20, L31, L40, L64, L99, L100, L255, L256, L999, L1000, L99999, ↓reduceIte, L11, L12, L13, L14, L15, L16, L30, L48, L160, K1, K2, K3, K4, K5, K7, K8, K9, K15, K17, K20, K27, K37, K48, K99, K255, inR, isPlace_r, isPlace_c, isSheet_r, bi, bv, a1, y1', b1, q]
end
theorem o_all : ob_all Iv := by
  rintro c nt z m a1 hc ⟨cd, r, rk, G, H, tp, n, ve, hv, hE, hW⟩
  have bad : Iv (c + 1) nt z m := Iv_0 hv hE hW
  have hG := hW.2.2.2.1
  have g0 := hG.1
  rcases dich a1 4 (by decide) with ⟨w, hw, rfl⟩ | ⟨d0, d⟩
  · by_cases h3 : w = 3
    · exact all3 hv hE hW h3
    · have t := all_r (w := w) hW.2.2.1 hG (by omega) 10000 0 (Nat.zero_le _) (by omega)
      have u1 : X0_ways 5 (-nI 1) m = some (nI (wyS G 9 (G 0 0)), m) := ways_c (bu := 9) hW.2.1 hG (by decide)
      have u2 : X0_knownByAny_4 5 10000 (-nI 1) (nI 0) (nI 0) m = some (hoL G 9 (G 0 0), m) := any_c (p := 9) fo5 hW.2.1 g0 (by decide) 10000 0 (Nat.zero_le _) (by omega)
      have u3 : X0_knownByAll_6 5 10000 (nI 255) (nI 0) m = some (alL G (G 0 0), m) := all_c hW.2.1 g0 10000 0 (Nat.zero_le _) (by omega)
      refine ⟨if w = 0 then nI (wyS G 9 (G 0 0)) else if w = 1 then hoL G 9 (G 0 0) else alL G (G 0 0), m, m, ?_, ?_, bad⟩
      · unfold X9_all X0_knownByAny X0_knownByAll
        rcases (show w = 0 ∨ w = 1 ∨ w = 2 by omega) with h | h | h
        · simp (disch := omega) only [leT, leF, ltT, ltF, eqT, eqF, inT, n_cl, nI_add, pk_mul, n_div, pk_sub, md8, md2, or_true, true_or, or_false, false_or, Bool.true_eq_false, Bool.false_eq_true, L0, L1, L2, L3, L4, L5, L6, L7, L8, L9, L10, L20, L31, L40, L64, L99, L100, L255, L256, L999, L1000, L99999, ↓reduceIte, L11, L12, L13, L14, L15, L16, L30, L48, L160, K1, K2, K3, K4, K5, K7, K8, K9, K15, K17, K20, K27, K37, K48, K99, K255, inR, isPlace_r, isPlace_c, isSheet_r, u1, bi, h]
        · simp (disch := omega) only [leT, leF, ltT, ltF, eqT, eqF, inT, n_cl, nI_add, pk_mul, n_div, pk_sub, md8, md2, or_true, true_or, or_false, false_or, Bool.true_eq_false, Bool.false_eq_true, L0, L1, L2, L3, L4, L5, L6, L7, L8, L9, L10, L20, L31, L40, L64, L99, L100, L255, L256, L999, L1000, L99999, ↓reduceIte, L11, L12, L13, L14, L15, L16, L30, L48, L160, K1, K2, K3, K4, K5, K7, K8, K9, K15, K17, K20, K27, K37, K48, K99, K255, inR, isPlace_r, isPlace_c, isSheet_r, u2, bi, h, show ¬ (1 = 0) by decide]
        · simp (disch := omega) only [leT, leF, ltT, ltF, eqT, eqF, inT, n_cl, nI_add, pk_mul, n_div, pk_sub, md8, md2, or_true, true_or, or_false, false_or, Bool.true_eq_false, Bool.false_eq_true, L0, L1, L2, L3, L4, L5, L6, L7, L8, L9, L10, L20, L31, L40, L64, L99, L100, L255, L256, L999, L1000, L99999, ↓reduceIte, L11, L12, L13, L14, L15, L16, L30, L48, L160, K1, K2, K3, K4, K5, K7, K8, K9, K15, K17, K20, K27, K37, K48, K99, K255, inR, isPlace_r, isPlace_c, isSheet_r, u3, bi, h, show ¬ (2 = 0) by decide, show ¬ (2 = 1) by decide]
      · unfold X10_all
        simp (disch := omega) only [leT, leF, ltT, ltF, eqT, eqF, inT, n_cl, nI_add, pk_mul, n_div, pk_sub, md8, md2, or_true, true_or, or_false, false_or, Bool.true_eq_false, Bool.false_eq_true, L0, L1, L2, L3, L4, L5, L6, L7, L8, L9, L10, L20, L31, L40, L64, L99, L100, L255, L256, L999, L1000, L99999, ↓reduceIte, L11, L12, L13, L14, L15, L16, L30, L48, L160, K1, K2, K3, K4, K5, K7, K8, K9, K15, K17, K20, K27, K37, K48, K99, K255, inR, isPlace_r, isPlace_c, isSheet_r, bi]
        exact t
  · have ne : ∀ k, k < 4 → (a1 = nI k) = False := fun k hk => eq_false (fun q => by
      rw [q] at d0
      have := inT (a := k) (n := 4) hk (by omega)
      rw [d0] at this
      exact this ▸ trivial)
    refine ⟨-nI 2, m, m, ?_, ?_, bad⟩
    · unfold X9_all
      simp (disch := omega) only [leT, leF, ltT, ltF, eqT, eqF, inT, n_cl, nI_add, pk_mul, n_div, pk_sub, md8, md2, or_true, true_or, or_false, false_or, Bool.true_eq_false, Bool.false_eq_true, L0, L1, L2, L3, L4, L5, L6, L7, L8, L9, L10, L20, L31, L40, L64, L99, L100, L255, L256, L999, L1000, L99999, ↓reduceIte, ne 0 (by decide), ne 1 (by decide), ne 2 (by decide), ne 3 (by decide)]
    · unfold X10_all
      simp (disch := omega) only [leT, leF, ltT, ltF, eqT, eqF, inT, n_cl, nI_add, pk_mul, n_div, pk_sub, md8, md2, or_true, true_or, or_false, false_or, Bool.true_eq_false, Bool.false_eq_true, L0, L1, L2, L3, L4, L5, L6, L7, L8, L9, L10, L20, L31, L40, L64, L99, L100, L255, L256, L999, L1000, L99999, ↓reduceIte, L11, L12, L13, L14, L15, L16, L30, L48, L160, K1, K2, K3, K4, K5, K7, K8, K9, K15, K17, K20, K27, K37, K48, K99, K255, inR, isPlace_r, isPlace_c, isSheet_r, d0, bi]
