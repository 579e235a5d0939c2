/-! calls: run -/
def runV (G Gk : Fo) (w : Nat) : Int32 := if w = 0 then nI (wyS Gk 9 (G 0 0)) else if w = 1 then nI (muS Gk (G 0 0)) - nI (muS G (G 0 0)) else nI (Gk 4 (w - 10))
section
variable {c nt ve f R bu n w k : Nat} {z : Nat → Nat} {m ma mb : Mem} {G G' H : Fo} {cd : Nat → Cd} {r rk : Nat → Nat} {tp : Nat → Nat}
theorem muS_q (h : Rq G G') : ∀ p, muS G' p = muS G p := by
  intro p
  induction p with
  | zero => rfl
  | succ p ih => rw [muS, muS, ih, h 6 p (by omega)]
theorem rd_0 (hG : GO nt R G) (i : Nat) : (rdA cd r bu G i).2 0 0 = G 0 0 := (rdA_i (cd := cd) (r := r) (bu := bu) hG i).2.2.2 0 0 (by decide) (by decide) (by omega)
def wOk (w : Nat) (N : Nat) : Prop := w = 0 ∨ w = 1 ∨ (10 ≤ w ∧ w < 10 + N)
theorem run_c (hE : CE cd r nt z ve m) (hR : RF 5 m G) (hG : GO nt 999 G) (hk : k ≤ 20) (hw : wOk w (G 0 0)) : ∃ m1, X9_run_55 nt z (nI k) (nI w) (nI (if w < 10 then 0 else 1)) m = some (runV G (rdA cd r 9 G k).2 w, m1) ∧ CE cd r nt z ve m1 ∧ SF m m1 := by
  unfold wOk at hw
  have g0 := hG.1
  obtain ⟨mt, t1, t2, t3, t4⟩ := think_c hE hR
  obtain ⟨m1, i', x1, x2, x3, x4, x5, x6, x7⟩ := rounds_c (bu := 9) (k := k) t3 t2 fo23 hG hk (by omega) (by decide)
  obtain ⟨j1, j2, j3, j4⟩ := rdA_i (cd := cd) (r := r) (bu := 9) hG i'
  have n0 := rd_0 (cd := cd) (r := r) (bu := 9) hG i'
  have x1' : X2_rounds nt z 23 (nI k) (-nI 1) mt = some (nI (rdA cd r 9 G k).1, m1) := x1
  have sf : SF m m1 := SF_t t4 (SF_m x5)
  have R5 : RF 5 m1 G := RF_g (fun x j h1 h2 => sf x j (by omega) (by omega) (by omega) (by omega) (by omega) (by omega) (by omega) (by omega)) hR
  have u1 := ways_c (bu := 9) x3 j1 (by decide)
  have u2 := min_c x3 j1
  have u3 := min_c R5 hG
  rw [n0, ← wyS_q x4] at u1
  rw [n0, ← muS_q x4] at u2
  have u1' : X0_ways 23 (-nI 1) m1 = some (nI (wyS (rdA cd r 9 G k).2 9 (G 0 0)), m1) := u1
  unfold X9_run_55 runV
  by_cases w0 : w = 0
  · subst w0
    simp (disch := omega) only [leT, leF, ltT, ltF, eqT, eqF, inT, n_cl, nI_add, pk_mul, n_div, pk_sub, md8, md2, or_true, true_or, or_false, false_or, Bool.true_eq_false, Bool.false_eq_true, L0, L1, L2, L3, L4, L5, L6, L7, L8, L9, L10, L20, L31, L40, L64, L99, L100, L255, L256, L999, L1000, L99999, ↓reduceIte, t1, bv, bi, x1', u1']
    exact ⟨m1, rfl, x2, sf⟩
  · by_cases w1 : w = 1
    · subst w1
      simp (disch := omega) only [leT, leF, ltT, ltF, eqT, eqF, inT, n_cl, nI_add, pk_mul, n_div, pk_sub, md8, md2, or_true, true_or, or_false, false_or, Bool.true_eq_false, Bool.false_eq_true, L0, L1, L2, L3, L4, L5, L6, L7, L8, L9, L10, L20, L31, L40, L64, L99, L100, L255, L256, L999, L1000, L99999, ↓reduceIte, t1, bv, bi, x1', u2, u3, show ¬ (1 = 0) by decide]
      exact ⟨m1, rfl, x2, sf⟩
    · have s4 := x3.2 4 (w - 10) (by decide) (by decide) (by omega)
      rw [← x4 4 (w - 10) (by omega)] at s4
      have hw9 : ¬ w < 10 := by omega
      simp (disch := omega) only [leT, leF, ltT, ltF, eqT, eqF, inT, n_cl, nI_add, pk_mul, n_div, pk_sub, md8, md2, or_true, true_or, or_false, false_or, Bool.true_eq_false, Bool.false_eq_true, L0, L1, L2, L3, L4, L5, L6, L7, L8, L9, L10, L20, L31, L40, L64, L99, L100, L255, L256, L999, L1000, L99999, ↓reduceIte, t1, bv, bi, x1', hw9, w0, w1, s4]
      exact ⟨m1, rfl, x2, sf⟩
theorem run_l {m0 : Mem} (hR0 : RR m0 G) (hG : GO nt R G) (hw : wOk w (G 0 0)) (hk : k ≤ 1000) : ∀ n i m, i ≤ k → k - i < n → RE cd r nt m → RR m (rdA cd r 9 G i).2 → Asd m0 m → ∃ mb, X10_run_62 n (nI k) (nI w) (nI (muS G (G 0 0))) (nI i) m = some (runV G (rdA cd r 9 G k).2 w, mb) ∧ RR mb G ∧ Bk m0 mb := by
  unfold wOk at hw
  have g0 := hG.1
  intro n
  induction n with
  | zero => intro i m _ h; omega
  | succ n ih =>
    intro i m hi hn hE hR hA
    obtain ⟨j1, j2, j3, j4⟩ := rdA_i (cd := cd) (r := r) (bu := 9) hG i
    have n0 := rd_0 (cd := cd) (r := r) (bu := 9) hG i
    rw [X10_run_62]
    by_cases h8 : i = k
    · subst h8
      obtain ⟨mb, b1, b2, b3⟩ := back_r hA hR0
      have u1 := known_r hR j1
      have u2 := min_r hR j1
      rw [n0] at u1 u2
      unfold runV
      by_cases w0 : w = 0
      · subst w0
        simp (disch := omega) only [leT, leF, ltT, ltF, eqT, eqF, inT, n_cl, nI_add, pk_mul, n_div, pk_sub, md8, md2, or_true, true_or, or_false, false_or, Bool.true_eq_false, Bool.false_eq_true, L0, L1, L2, L3, L4, L5, L6, L7, L8, L9, L10, L20, L31, L40, L64, L99, L100, L255, L256, L999, L1000, L99999, ↓reduceIte, L11, L12, L13, L14, L15, L16, L30, L48, L160, K1, K2, K3, K4, K5, K7, K8, K9, K15, K17, K20, K27, K37, K48, K99, K255, inR, isPlace_r, isPlace_c, isSheet_r, u1, bi, X10_run_113, b1, bv]
        exact ⟨mb, rfl, b2, b3⟩
      · by_cases w1 : w = 1
        · subst w1
          simp (disch := omega) only [leT, leF, ltT, ltF, eqT, eqF, inT, n_cl, nI_add, pk_mul, n_div, pk_sub, md8, md2, or_true, true_or, or_false, false_or, Bool.true_eq_false, Bool.false_eq_true, L0, L1, L2, L3, L4, L5, L6, L7, L8, L9, L10, L20, L31, L40, L64, L99, L100, L255, L256, L999, L1000, L99999, ↓reduceIte, L11, L12, L13, L14, L15, L16, L30, L48, L160, K1, K2, K3, K4, K5, K7, K8, K9, K15, K17, K20, K27, K37, K48, K99, K255, inR, isPlace_r, isPlace_c, isSheet_r, u2, bi, X10_run_113, b1, bv, show ¬ (1 = 0) by decide]
          exact ⟨mb, rfl, b2, b3⟩
        · have s4 := (hR.2.2.2.1 (w - 10) (by omega)).2.2.1
          simp (disch := omega) only [leT, leF, ltT, ltF, eqT, eqF, inT, n_cl, nI_add, pk_mul, n_div, pk_sub, md8, md2, or_true, true_or, or_false, false_or, Bool.true_eq_false, Bool.false_eq_true, L0, L1, L2, L3, L4, L5, L6, L7, L8, L9, L10, L20, L31, L40, L64, L99, L100, L255, L256, L999, L1000, L99999, ↓reduceIte, L11, L12, L13, L14, L15, L16, L30, L48, L160, K1, K2, K3, K4, K5, K7, K8, K9, K15, K17, K20, K27, K37, K48, K99, K255, inR, isPlace_r, isPlace_c, isSheet_r, w0, w1, knows_r (show w - 10 < 6 by omega), bi, X10_run_113, b1, bv, s4]
          exact ⟨mb, rfl, b2, b3⟩
    · obtain ⟨m1, y1, y2, y3⟩ := passes_r (bu := 9) hE hR j1 (by decide)
      have y1' : X10_passes (-nI 1) m = some (nI (passA cd r 9 (rdA cd r 9 G i).2).1, m1) := y1
      obtain ⟨mb, b1, b2, b3⟩ := ih (i + 1) m1 (by omega) (by omega) (FrT_re y3 hE) y2 (Asd_t hA y3)
      simp (disch := omega) only [leT, leF, ltT, ltF, eqT, eqF, inT, n_cl, nI_add, pk_mul, n_div, pk_sub, md8, md2, or_true, true_or, or_false, false_or, Bool.true_eq_false, Bool.false_eq_true, L0, L1, L2, L3, L4, L5, L6, L7, L8, L9, L10, L20, L31, L40, L64, L99, L100, L255, L256, L999, L1000, L99999, ↓reduceIte, L11, L12, L13, L14, L15, L16, L30, L48, L160, K1, K2, K3, K4, K5, K7, K8, K9, K15, K17, K20, K27, K37, K48, K99, K255, inR, isPlace_r, isPlace_c, isSheet_r, y1', bi]
      exact ⟨mb, b1, b2, b3⟩
theorem run_r (hE : RE cd r nt m) (hR : RR m G) (hG : GO nt R G) (hw : wOk w (G 0 0)) (hk : k ≤ 20) : ∃ mb, X10_run_50 (nI k) (nI w) m = some (runV G (rdA cd r 9 G k).2 w, mb) ∧ RR mb G ∧ Bk m mb := by
  obtain ⟨ma, a1, a2, a3⟩ := aside_r m hR
  obtain ⟨mb, b1, b2, b3⟩ := run_l (k := k) (w := w) hR hG hw (by omega) 10000 0 ma (Nat.zero_le _) (by omega) (Asd_re a2 hE) a3 a2
  have u := min_r hR hG
  refine ⟨mb, ?_, b2, b3⟩
  unfold X10_run_50
  simp (disch := omega) only [leT, leF, ltT, ltF, eqT, eqF, inT, n_cl, nI_add, pk_mul, n_div, pk_sub, md8, md2, or_true, true_or, or_false, false_or, Bool.true_eq_false, Bool.false_eq_true, L0, L1, L2, L3, L4, L5, L6, L7, L8, L9, L10, L20, L31, L40, L64, L99, L100, L255, L256, L999, L1000, L99999, ↓reduceIte, L11, L12, L13, L14, L15, L16, L30, L48, L160, K1, K2, K3, K4, K5, K7, K8, K9, K15, K17, K20, K27, K37, K48, K99, K255, inR, isPlace_r, isPlace_c, isSheet_r, u, bi, a1, bv]
  exact b1
theorem run_ok (hv : ve ≤ c) (hE : CE cd r nt z ve m) (hW : IW cd r rk G H tp n nt m) (hk : k ≤ 20) (hw : wOk w (G 0 0)) : ∃ (r : Int32) (m1 m2 : Mem), X9_run nt z (nI k) (nI w) m = some (r, m1) ∧ X10_run (nI k) (nI w) m1 = some (r, m2) ∧ Iv (c + 1) nt z m2 := by
  obtain ⟨m1, x1, x2, x3⟩ := run_c (z := z) (ve := ve) hE hW.2.1 hW.2.2.2.1 hk hw
  have W1 := IW_s x3 hW
  obtain ⟨m2, y1, y2, y3⟩ := run_r (k := k) (w := w) W1.1 W1.2.2.1 hW.2.2.2.1 hw hk
  have g0 := hW.2.2.2.1.1
  have s0 := hW.2.1.1 0 (by decide)
  have pr1 := fun x => isOne_r g0 x m1 W1.2.2.1.1
  unfold wOk at hw
  refine ⟨runV G (rdA cd r 9 G k).2 w, m1, m2, ?_, ?_, Iv_b hv x2 W1 y2 y3⟩
  · unfold X9_run X9_run_37 X9_run_38
    by_cases q : w < 10
    · rw [if_pos q] at x1
      rcases (show w = 0 ∨ w = 1 by omega) with h | h
      · simp (disch := omega) only [leT, leF, ltT, ltF, eqT, eqF, inT, n_cl, nI_add, pk_mul, n_div, pk_sub, md8, md2, or_true, true_or, or_false, false_or, Bool.true_eq_false, Bool.false_eq_true, L0, L1, L2, L3, L4, L5, L6, L7, L8, L9, L10, L20, L31, L40, L64, L99, L100, L255, L256, L999, L1000, L99999, ↓reduceIte, L11, L12, L13, L14, L15, L16, L30, L48, L160, K1, K2, K3, K4, K5, K7, K8, K9, K15, K17, K20, K27, K37, K48, K99, K255, inR, isPlace_r, isPlace_c, isSheet_r]
        exact x1
      · simp (disch := omega) only [leT, leF, ltT, ltF, eqT, eqF, inT, n_cl, nI_add, pk_mul, n_div, pk_sub, md8, md2, or_true, true_or, or_false, false_or, Bool.true_eq_false, Bool.false_eq_true, L0, L1, L2, L3, L4, L5, L6, L7, L8, L9, L10, L20, L31, L40, L64, L99, L100, L255, L256, L999, L1000, L99999, ↓reduceIte, L11, L12, L13, L14, L15, L16, L30, L48, L160, K1, K2, K3, K4, K5, K7, K8, K9, K15, K17, K20, K27, K37, K48, K99, K255, inR, isPlace_r, isPlace_c, isSheet_r]
        exact x1
    · rw [if_neg q] at x1
      simp (disch := omega) only [leT, leF, ltT, ltF, eqT, eqF, inT, n_cl, nI_add, pk_mul, n_div, pk_sub, md8, md2, or_true, true_or, or_false, false_or, Bool.true_eq_false, Bool.false_eq_true, L0, L1, L2, L3, L4, L5, L6, L7, L8, L9, L10, L20, L31, L40, L64, L99, L100, L255, L256, L999, L1000, L99999, ↓reduceIte, L11, L12, L13, L14, L15, L16, L30, L48, L160, K1, K2, K3, K4, K5, K7, K8, K9, K15, K17, K20, K27, K37, K48, K99, K255, inR, isPlace_r, isPlace_c, isSheet_r, s0]
      exact x1
  · unfold X10_run
    by_cases q : w < 10
    · simp (disch := omega) only [leT, leF, ltT, ltF, eqT, eqF, inT, n_cl, nI_add, pk_mul, n_div, pk_sub, md8, md2, or_true, true_or, or_false, false_or, Bool.true_eq_false, Bool.false_eq_true, L0, L1, L2, L3, L4, L5, L6, L7, L8, L9, L10, L20, L31, L40, L64, L99, L100, L255, L256, L999, L1000, L99999, ↓reduceIte, L11, L12, L13, L14, L15, L16, L30, L48, L160, K1, K2, K3, K4, K5, K7, K8, K9, K15, K17, K20, K27, K37, K48, K99, K255, inR, isPlace_r, isPlace_c, isSheet_r, bi]
      exact y1
    · simp (disch := omega) only [leT, leF, ltT, ltF, eqT, eqF, inT, n_cl, nI_add, pk_mul, n_div, pk_sub, md8, md2, or_true, true_or, or_false, false_or, Bool.true_eq_false, Bool.false_eq_true, L0, L1, L2, L3, L4, L5, L6, L7, L8, L9, L10, L20, L31, L40, L64, L99, L100, L255, L256, L999, L1000, L99999, ↓reduceIte, L11, L12, L13, L14, L15, L16, L30, L48, L160, K1, K2, K3, K4, K5, K7, K8, K9, K15, K17, K20, K27, K37, K48, K99, K255, inR, isPlace_r, isPlace_c, isSheet_r, inF, K10, inAt, bi, pr1]
      exact y1
end
theorem o_run : ob_run Iv := by
  rintro c nt z m a1 a2 hc ⟨cd, r, rk, G, H, tp, n, ve, hv, hE, hW⟩
  have bad : Iv (c + 1) nt z m := Iv_0 hv hE hW
  have g0 := hW.2.2.2.1.1
  have s0 := hW.2.1.1 0 (by decide)
  have pr1 := fun x => isOne_r g0 x m hW.2.2.1.1
  rcases dich a1 21 (by decide) with ⟨k, hk, rfl⟩ | ⟨d0, d⟩
  · by_cases hz : a2 < nI 0
    · have hz' : (a2 < nI 0) = True := eq_true hz
      have e0 : (a2 = nI 0) = False := eq_false (fun q => by rw [q] at hz; exact absurd hz (by decide))
      have e1 : (a2 = nI 1) = False := eq_false (fun q => by rw [q] at hz; exact absurd hz (by decide))
      have e2 : (a2 < nI 10) = True := eq_true (by
        have h1 := Int32.lt_iff_toInt_lt.mp hz
        apply Int32.lt_iff_toInt_lt.mpr
        rw [show (nI 0).toInt = 0 from rfl] at h1
        rw [show (nI 10).toInt = 10 from rfl]
        omega)
      have i1 : inn a2 (1 + 1) = False := eq_false (fun q => by
        have h1 := Int32.lt_iff_toInt_lt.mp hz
        have h2 := (inn_i.mp q).1
        rw [show (nI 0).toInt = 0 from rfl] at h1
        omega)
      have n1 := inNg hz (a := 10) (b := 15) (by decide) (by decide) m
      refine ⟨-nI 2, m, m, ?_, ?_, bad⟩
      · unfold X9_run X9_run_37 X9_run_38
        simp (disch := omega) only [leT, leF, ltT, ltF, eqT, eqF, inT, n_cl, nI_add, pk_mul, n_div, pk_sub, md8, md2, or_true, true_or, or_false, false_or, Bool.true_eq_false, Bool.false_eq_true, L0, L1, L2, L3, L4, L5, L6, L7, L8, L9, L10, L20, L31, L40, L64, L99, L100, L255, L256, L999, L1000, L99999, ↓reduceIte, L11, L12, L13, L14, L15, L16, L30, L48, L160, K1, K2, K3, K4, K5, K7, K8, K9, K15, K17, K20, K27, K37, K48, K99, K255, inR, isPlace_r, isPlace_c, isSheet_r, e0, e1, e2]
      · unfold X10_run
        simp (disch := omega) only [leT, leF, ltT, ltF, eqT, eqF, inT, n_cl, nI_add, pk_mul, n_div, pk_sub, md8, md2, or_true, true_or, or_false, false_or, Bool.true_eq_false, Bool.false_eq_true, L0, L1, L2, L3, L4, L5, L6, L7, L8, L9, L10, L20, L31, L40, L64, L99, L100, L255, L256, L999, L1000, L99999, ↓reduceIte, L11, L12, L13, L14, L15, L16, L30, L48, L160, K1, K2, K3, K4, K5, K7, K8, K9, K15, K17, K20, K27, K37, K48, K99, K255, inR, isPlace_r, isPlace_c, isSheet_r, K10, i1, n1, bi]
    · obtain ⟨w, hw, rfl⟩ := nI_of hz
      by_cases q : wOk w (G 0 0)
      · exact run_ok hv hE hW (by omega) q
      · unfold wOk at q
        refine ⟨-nI 2, m, m, ?_, ?_, bad⟩
        · unfold X9_run X9_run_37 X9_run_38
          by_cases q1 : w < 10
          · simp (disch := omega) only [leT, leF, ltT, ltF, eqT, eqF, inT, n_cl, nI_add, pk_mul, n_div, pk_sub, md8, md2, or_true, true_or, or_false, false_or, Bool.true_eq_false, Bool.false_eq_true, L0, L1, L2, L3, L4, L5, L6, L7, L8, L9, L10, L20, L31, L40, L64, L99, L100, L255, L256, L999, L1000, L99999, ↓reduceIte, L11, L12, L13, L14, L15, L16, L30, L48, L160, K1, K2, K3, K4, K5, K7, K8, K9, K15, K17, K20, K27, K37, K48, K99, K255, inR, isPlace_r, isPlace_c, isSheet_r]
          · simp (disch := omega) only [leT, leF, ltT, ltF, eqT, eqF, inT, n_cl, nI_add, pk_mul, n_div, pk_sub, md8, md2, or_true, true_or, or_false, false_or, Bool.true_eq_false, Bool.false_eq_true, L0, L1, L2, L3, L4, L5, L6, L7, L8, L9, L10, L20, L31, L40, L64, L99, L100, L255, L256, L999, L1000, L99999, ↓reduceIte, L11, L12, L13, L14, L15, L16, L30, L48, L160, K1, K2, K3, K4, K5, K7, K8, K9, K15, K17, K20, K27, K37, K48, K99, K255, inR, isPlace_r, isPlace_c, isSheet_r, s0]
        · unfold X10_run
          by_cases q1 : w < 10
          · simp (disch := omega) only [leT, leF, ltT, ltF, eqT, eqF, inT, n_cl, nI_add, pk_mul, n_div, pk_sub, md8, md2, or_true, true_or, or_false, false_or, Bool.true_eq_false, Bool.false_eq_true, L0, L1, L2, L3, L4, L5, L6, L7, L8, L9, L10, L20, L31, L40, L64, L99, L100, L255, L256, L999, L1000, L99999, ↓reduceIte, L11, L12, L13, L14, L15, L16, L30, L48, L160, K1, K2, K3, K4, K5, K7, K8, K9, K15, K17, K20, K27, K37, K48, K99, K255, inR, isPlace_r, isPlace_c, isSheet_r, inF, K10, inAf, bi]
          · by_cases q2 : w ≤ 15
            · simp (disch := omega) only [leT, leF, ltT, ltF, eqT, eqF, inT, n_cl, nI_add, pk_mul, n_div, pk_sub, md8, md2, or_true, true_or, or_false, false_or, Bool.true_eq_false, Bool.false_eq_true, L0, L1, L2, L3, L4, L5, L6, L7, L8, L9, L10, L20, L31, L40, L64, L99, L100, L255, L256, L999, L1000, L99999, ↓reduceIte, L11, L12, L13, L14, L15, L16, L30, L48, L160, K1, K2, K3, K4, K5, K7, K8, K9, K15, K17, K20, K27, K37, K48, K99, K255, inR, isPlace_r, isPlace_c, isSheet_r, inF, K10, inAt, bi, pr1]
            · simp (disch := omega) only [leT, leF, ltT, ltF, eqT, eqF, inT, n_cl, nI_add, pk_mul, n_div, pk_sub, md8, md2, or_true, true_or, or_false, false_or, Bool.true_eq_false, Bool.false_eq_true, L0, L1, L2, L3, L4, L5, L6, L7, L8, L9, L10, L20, L31, L40, L64, L99, L100, L255, L256, L999, L1000, L99999, ↓reduceIte, L11, L12, L13, L14, L15, L16, L30, L48, L160, K1, K2, K3, K4, K5, K7, K8, K9, K15, K17, K20, K27, K37, K48, K99, K255, inR, isPlace_r, isPlace_c, isSheet_r, inF, K10, inAg, bi]
  · refine ⟨-nI 2, m, m, ?_, ?_, bad⟩
    · unfold X9_run
      rcases d with d1 | ⟨d1, d2, d3, d4⟩
      · simp (disch := omega) only [leT, leF, ltT, ltF, eqT, eqF, inT, n_cl, nI_add, pk_mul, n_div, pk_sub, md8, md2, or_true, true_or, or_false, false_or, Bool.true_eq_false, Bool.false_eq_true, L0, L1, L2, L3, L4, L5, L6, L7, L8, L9, L10, L20, L31, L40, L64, L99, L100, L255, L256, L999, L1000, L99999, ↓reduceIte, L11, L12, L13, L14, L15, L16, L30, L48, L160, K1, K2, K3, K4, K5, K7, K8, K9, K15, K17, K20, K27, K37, K48, K99, K255, inR, isPlace_r, isPlace_c, isSheet_r, d1]
      · simp (disch := omega) only [leT, leF, ltT, ltF, eqT, eqF, inT, n_cl, nI_add, pk_mul, n_div, pk_sub, md8, md2, or_true, true_or, or_false, false_or, Bool.true_eq_false, Bool.false_eq_true, L0, L1, L2, L3, L4, L5, L6, L7, L8, L9, L10, L20, L31, L40, L64, L99, L100, L255, L256, L999, L1000, L99999, ↓reduceIte, L11, L12, L13, L14, L15, L16, L30, L48, L160, K1, K2, K3, K4, K5, K7, K8, K9, K15, K17, K20, K27, K37, K48, K99, K255, inR, isPlace_r, isPlace_c, isSheet_r, d1, d4 20 (by decide)]
    · unfold X10_run
      simp (disch := omega) only [leT, leF, ltT, ltF, eqT, eqF, inT, n_cl, nI_add, pk_mul, n_div, pk_sub, md8, md2, or_true, true_or, or_false, false_or, Bool.true_eq_false, Bool.false_eq_true, L0, L1, L2, L3, L4, L5, L6, L7, L8, L9, L10, L20, L31, L40, L64, L99, L100, L255, L256, L999, L1000, L99999, ↓reduceIte, L11, L12, L13, L14, L15, L16, L30, L48, L160, K1, K2, K3, K4, K5, K7, K8, K9, K15, K17, K20, K27, K37, K48, K99, K255, inR, isPlace_r, isPlace_c, isSheet_r, bi, d0]
