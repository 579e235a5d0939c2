/-! calls: missed -/
def msD (cd : Nat → Cd) (r : Nat → Nat) (G : Fo) (p : Nat) : Int32 := nI (wyS (rdA cd r p G 8).2 p (G 0 0)) - nI (wyS G p (G 0 0))
def msL (cd : Nat → Cd) (r : Nat → Nat) (G : Fo) : Nat → Nat × Int32
  | 0 => (9, -nI 1)
  | p + 1 => if (msL cd r G p).1 = 9 ∨ ¬ (msL cd r G p).2 ≤ msD cd r G p then (p, msD cd r G p) else msL cd r G p
def msR (s : Nat × Int32) (w : Nat) : Int32 := if w = 0 then nbI s.1 else s.2
section
variable {c nt ve f R bu n w k p t v : Nat} {z : Nat → Nat} {m ma mb : Mem} {G G' H : Fo} {cd : Nat → Cd} {r rk : Nat → Nat} {tp : Nat → Nat} {x : Int32}
theorem wyS_9 {G : Fo} {p : Nat} : ∀ N, N ≤ 6 → wyS G 9 N = wyS G p N + if p < N then popc (G 4 p) else 0 := by
  intro N
  induction N with
  | zero => intro _; rw [if_neg (by omega)]; rfl
  | succ N ih =>
    intro hN
    rw [wyS, wyS, if_neg (by omega), ih (by omega)]
    by_cases q : N = p
    · subst q; rw [if_pos rfl, if_neg (by omega), if_pos (by omega)]; omega
    · rw [if_neg q]
      by_cases q2 : p < N
      · rw [if_pos q2, if_pos (by omega)]; omega
      · rw [if_neg q2, if_neg (by omega)]; omega
theorem msL_le : ∀ p, p ≤ 6 → ((msL cd r G p).1 < 6 ∨ (msL cd r G p).1 = 9) := by
  intro p
  induction p with
  | zero => intro _; exact .inr rfl
  | succ p ih =>
    intro hp
    rw [msL]
    split
    · exact .inl (by show p < 6; omega)
    · exact ih (by omega)
theorem mis_c (hG : GO nt 999 G) (hw : w < 2) : ∀ n p m, p ≤ G 0 0 → G 0 0 - p < n → CE cd r nt z ve m → RF 5 m G → ∃ m', X9_missed_19 nt z n (nI w) (nbI (msL cd r G p).1) (msL cd r G p).2 (nI p) m = some (msR (msL cd r G (G 0 0)) w, m') ∧ CE cd r nt z ve m' ∧ SF m m' := by
  have g0 := hG.1
  intro n
  induction n with
  | zero => intro t m _ h; omega
  | succ n ih =>
    intro p m hp hn hE hR
    have s0 := hR.1 0 (by decide)
    rw [X9_missed_19]
    by_cases h8 : p = G 0 0
    · unfold msR
      by_cases w0 : w = 0
      · simp (disch := omega) only [leT, leF, ltT, ltF, eqT, eqF, inT, n_cl, nI_add, pk_mul, n_div, pk_sub, md8, md2, or_true, true_or, or_false, false_or, Bool.true_eq_false, Bool.false_eq_true, L0, L1, L2, L3, L4, L5, L6, L7, L8, L9, L10, L20, L31, L40, L64, L99, L100, L255, L256, L999, L1000, L99999, ↓reduceIte, L11, L12, L13, L14, L15, L16, L30, L48, L160, K1, K2, K3, K4, K5, K7, K8, K9, K15, K17, K20, K27, K37, K48, K99, K255, inR, isPlace_r, isPlace_c, isSheet_r, s0, h8, w0]
        exact ⟨m, rfl, hE, SF_r m⟩
      · simp (disch := omega) only [leT, leF, ltT, ltF, eqT, eqF, inT, n_cl, nI_add, pk_mul, n_div, pk_sub, md8, md2, or_true, true_or, or_false, false_or, Bool.true_eq_false, Bool.false_eq_true, L0, L1, L2, L3, L4, L5, L6, L7, L8, L9, L10, L20, L31, L40, L64, L99, L100, L255, L256, L999, L1000, L99999, ↓reduceIte, L11, L12, L13, L14, L15, L16, L30, L48, L160, K1, K2, K3, K4, K5, K7, K8, K9, K15, K17, K20, K27, K37, K48, K99, K255, inR, isPlace_r, isPlace_c, isSheet_r, s0, h8, w0]
        exact ⟨m, rfl, hE, SF_r m⟩
    · obtain ⟨mt, t1, t2, t3, t4⟩ := think_c hE hR
      obtain ⟨m1, i', x1, x2, x3, x4, x5, x6, x7⟩ := rounds_c (bu := p) (k := 8) t3 t2 fo23 hG (by decide) (by decide) (by omega)
      obtain ⟨j1, j2, j3, j4⟩ := rdA_i (cd := cd) (r := r) (bu := p) hG i'
      have sf := SF_t t4 (SF_m x5)
      have R5 : RF 5 m1 G := RF_g (fun a j h1 h2 => sf a j (by omega) (by omega) (by omega) (by omega) (by omega) (by omega) (by omega) (by omega)) hR
      have u1 := ways_c (bu := p) x3 j1 (by omega)
      rw [rd_0 hG i', ← wyS_q x4] at u1
      have u2 := ways_c (bu := p) R5 hG (by omega)
      have hnp : nbI p = nI p := by unfold nbI; rw [if_neg (by omega)]
      rw [hnp] at x1 u1 u2
      have hml := msL_le (cd := cd) (r := r) (G := G) p (by omega)
      have hE9 := nbI_e (b := (msL cd r G p).1) (by omega)
      have hD : nI (wyS (rdA cd r p G 8).2 p (G 0 0)) - nI (wyS G p (G 0 0)) = msD cd r G p := rfl
      obtain ⟨m2, y1, y2, y3⟩ := ih (p + 1) m1 (by omega) (by omega) x2 R5
      rw [msL] at y1
      generalize hV1 : nI (wyS (rdA cd r p G 8).2 p (G 0 0)) = V1 at u1 hD
      generalize hV2 : nI (wyS G p (G 0 0)) = V2 at u2 hD
      by_cases q : (msL cd r G p).1 = 9
      · rw [if_pos (.inl q)] at y1
        simp only [hnp] at y1
        simp (disch := omega) only [leT, leF, ltT, ltF, eqT, eqF, inT, n_cl, nI_add, pk_mul, n_div, pk_sub, md8, md2, or_true, true_or, or_false, false_or, Bool.true_eq_false, Bool.false_eq_true, L0, L1, L2, L3, L4, L5, L6, L7, L8, L9, L10, L20, L31, L40, L64, L99, L100, L255, L256, L999, L1000, L99999, ↓reduceIte, L11, L12, L13, L14, L15, L16, L30, L48, L160, K1, K2, K3, K4, K5, K7, K8, K9, K15, K17, K20, K27, K37, K48, K99, K255, inR, isPlace_r, isPlace_c, isSheet_r, s0, t1, bv, bi, x1, u1, u2, hD, hE9, q, X9_missed_90, X9_missed_96]
        exact ⟨m2, y1, y2, SF_t sf y3⟩
      · by_cases q2 : (msL cd r G p).2 ≤ msD cd r G p
        · rw [if_neg (fun y => y.elim q (fun h => h q2))] at y1
          simp (disch := omega) only [leT, leF, ltT, ltF, eqT, eqF, inT, n_cl, nI_add, pk_mul, n_div, pk_sub, md8, md2, or_true, true_or, or_false, false_or, Bool.true_eq_false, Bool.false_eq_true, L0, L1, L2, L3, L4, L5, L6, L7, L8, L9, L10, L20, L31, L40, L64, L99, L100, L255, L256, L999, L1000, L99999, ↓reduceIte, L11, L12, L13, L14, L15, L16, L30, L48, L160, K1, K2, K3, K4, K5, K7, K8, K9, K15, K17, K20, K27, K37, K48, K99, K255, inR, isPlace_r, isPlace_c, isSheet_r, s0, t1, bv, bi, x1, u1, u2, hD, hE9, q, q2, X9_missed_90, X9_missed_96]
          exact ⟨m2, y1, y2, SF_t sf y3⟩
        · rw [if_pos (.inr q2)] at y1
          simp only [hnp] at y1
          simp (disch := omega) only [leT, leF, ltT, ltF, eqT, eqF, inT, n_cl, nI_add, pk_mul, n_div, pk_sub, md8, md2, or_true, true_or, or_false, false_or, Bool.true_eq_false, Bool.false_eq_true, L0, L1, L2, L3, L4, L5, L6, L7, L8, L9, L10, L20, L31, L40, L64, L99, L100, L255, L256, L999, L1000, L99999, ↓reduceIte, L11, L12, L13, L14, L15, L16, L30, L48, L160, K1, K2, K3, K4, K5, K7, K8, K9, K15, K17, K20, K27, K37, K48, K99, K255, inR, isPlace_r, isPlace_c, isSheet_r, s0, t1, bv, bi, x1, u1, u2, hD, hE9, q, q2, X9_missed_90, X9_missed_96]
          exact ⟨m2, y1, y2, SF_t sf y3⟩
theorem mis52 (k20 : Int32 → Int32 → Int32 → Int32 → Mem → Option (Int32 × Mem)) {m0 : Mem} (hR0 : RR m0 G) (hG : GO nt R G) (hp : p < G 0 0) {v1 : Int32} (hs : (msL cd r G p).1 < 6 ∨ (msL cd r G p).1 = 9) : ∀ n i m, i ≤ 8 → 8 - i < n → RE cd r nt m → RR m (rdA cd r p G i).2 → Asd m0 m → ∃ mb, X10_missed_52 k20 n v1 (nbI (msL cd r G p).1) (msL cd r G p).2 (nI p) (nI (wyS G p (G 0 0))) (nI i) m = k20 v1 (nbI (msL cd r G (p + 1)).1) (msL cd r G (p + 1)).2 (nI (p + 1)) mb ∧ RR mb G ∧ Bk m0 mb := by
  have g0 := hG.1
  intro n
  induction n with
  | zero => intro i m _ h; omega
  | succ n ih =>
    intro i m hi hn hE hR hA
    obtain ⟨j1, j2, j3, j4⟩ := rdA_i (cd := cd) (r := r) (bu := p) hG i
    have n0 := rd_0 (cd := cd) (r := r) (bu := p) hG i
    have hnp : nbI p = nI p := by unfold nbI; rw [if_neg (by omega)]
    rw [X10_missed_52]
    by_cases h8 : i = 8
    · subst h8
      obtain ⟨mb, b1, b2, b3⟩ := back_r hA hR0
      have u1 := known_r hR j1
      rw [n0] at u1
      have s4 := (hR.2.2.2.1 p (by omega)).2.2.1
      have h4 := (j1.2.2.2 p (by omega)).2.2.2.1
      have w9 := wyS_9 (G := (rdA cd r p G 8).2) (p := p) (G 0 0) g0
      rw [if_pos hp] at w9
      have e1 : wyS (rdA cd r p G 8).2 9 (G 0 0) - popc ((rdA cd r p G 8).2 4 p) = wyS (rdA cd r p G 8).2 p (G 0 0) := by omega
      have hsub : nI (wyS (rdA cd r p G 8).2 9 (G 0 0)) - nI (popc ((rdA cd r p G 8).2 4 p)) = nI (wyS (rdA cd r p G 8).2 p (G 0 0)) := by rw [pk_sub (by omega), e1]
      have hD : nI (wyS (rdA cd r p G 8).2 p (G 0 0)) - nI (wyS G p (G 0 0)) = msD cd r G p := rfl
      have hE9 := nbI_e (b := (msL cd r G p).1) (by omega)
      have hb := bitsOf_r (n := (rdA cd r p G 8).2 4 p) (by omega) m
      generalize hV1 : nI (wyS (rdA cd r p G 8).2 p (G 0 0)) = V1 at hsub hD
      generalize hV2 : nI (wyS G p (G 0 0)) = V2 at hD ⊢
      generalize hV3 : nI (wyS (rdA cd r p G 8).2 9 (G 0 0)) = V3 at u1 hsub
      generalize hV4 : nI (popc ((rdA cd r p G 8).2 4 p)) = V4 at hb hsub
      by_cases q : (msL cd r G p).1 = 9
      · have hst : msL cd r G (p + 1) = (p, msD cd r G p) := by rw [msL, if_pos (.inl q)]
        rw [hst]
        simp (disch := omega) only [leT, leF, ltT, ltF, eqT, eqF, inT, n_cl, nI_add, pk_mul, n_div, pk_sub, md8, md2, or_true, true_or, or_false, false_or, Bool.true_eq_false, Bool.false_eq_true, L0, L1, L2, L3, L4, L5, L6, L7, L8, L9, L10, L20, L31, L40, L64, L99, L100, L255, L256, L999, L1000, L99999, ↓reduceIte, L11, L12, L13, L14, L15, L16, L30, L48, L160, K1, K2, K3, K4, K5, K7, K8, K9, K15, K17, K20, K27, K37, K48, K99, K255, inR, isPlace_r, isPlace_c, isSheet_r, u1, bi, knows_r (show p < 6 by omega), s4, hb, b1, bv, hsub, hD, hE9, q, X10_missed_106, X10_missed_112, hnp]
        exact ⟨mb, rfl, b2, b3⟩
      · by_cases q2 : (msL cd r G p).2 ≤ msD cd r G p
        · have hst : msL cd r G (p + 1) = msL cd r G p := by rw [msL, if_neg (fun y => y.elim q (fun h => h q2))]
          rw [hst]
          simp (disch := omega) only [leT, leF, ltT, ltF, eqT, eqF, inT, n_cl, nI_add, pk_mul, n_div, pk_sub, md8, md2, or_true, true_or, or_false, false_or, Bool.true_eq_false, Bool.false_eq_true, L0, L1, L2, L3, L4, L5, L6, L7, L8, L9, L10, L20, L31, L40, L64, L99, L100, L255, L256, L999, L1000, L99999, ↓reduceIte, L11, L12, L13, L14, L15, L16, L30, L48, L160, K1, K2, K3, K4, K5, K7, K8, K9, K15, K17, K20, K27, K37, K48, K99, K255, inR, isPlace_r, isPlace_c, isSheet_r, u1, bi, knows_r (show p < 6 by omega), s4, hb, b1, bv, hsub, hD, hE9, q, q2, X10_missed_106, X10_missed_112, hnp]
          exact ⟨mb, rfl, b2, b3⟩
        · have hst : msL cd r G (p + 1) = (p, msD cd r G p) := by rw [msL, if_pos (.inr q2)]
          rw [hst]
          simp (disch := omega) only [leT, leF, ltT, ltF, eqT, eqF, inT, n_cl, nI_add, pk_mul, n_div, pk_sub, md8, md2, or_true, true_or, or_false, false_or, Bool.true_eq_false, Bool.false_eq_true, L0, L1, L2, L3, L4, L5, L6, L7, L8, L9, L10, L20, L31, L40, L64, L99, L100, L255, L256, L999, L1000, L99999, ↓reduceIte, L11, L12, L13, L14, L15, L16, L30, L48, L160, K1, K2, K3, K4, K5, K7, K8, K9, K15, K17, K20, K27, K37, K48, K99, K255, inR, isPlace_r, isPlace_c, isSheet_r, u1, bi, knows_r (show p < 6 by omega), s4, hb, b1, bv, hsub, hD, hE9, q, q2, X10_missed_106, X10_missed_112, hnp]
          exact ⟨mb, rfl, b2, b3⟩
    · obtain ⟨m1, y1, y2, y3⟩ := passes_r (bu := p) hE hR j1 (by omega)
      rw [hnp] at y1
      obtain ⟨mb, b1, b2, b3⟩ := ih (i + 1) m1 (by omega) (by omega) (FrT_re y3 hE) y2 (Asd_t hA y3)
      simp (disch := omega) only [leT, leF, ltT, ltF, eqT, eqF, inT, n_cl, nI_add, pk_mul, n_div, pk_sub, md8, md2, or_true, true_or, or_false, false_or, Bool.true_eq_false, Bool.false_eq_true, L0, L1, L2, L3, L4, L5, L6, L7, L8, L9, L10, L20, L31, L40, L64, L99, L100, L255, L256, L999, L1000, L99999, ↓reduceIte, L11, L12, L13, L14, L15, L16, L30, L48, L160, K1, K2, K3, K4, K5, K7, K8, K9, K15, K17, K20, K27, K37, K48, K99, K255, inR, isPlace_r, isPlace_c, isSheet_r, y1, bi]
      exact ⟨mb, b1, b2, b3⟩
theorem mis_r (hG : GO nt R G) (hw : w < 2) : ∀ n p m, p ≤ G 0 0 → G 0 0 - p < n → RE cd r nt m → RR m G → ∃ m', X10_missed_20 n (nI w) (nbI (msL cd r G p).1) (msL cd r G p).2 (nI p) m = some (msR (msL cd r G (G 0 0)) w, m') ∧ RR m' G ∧ Bk m m' := by
  have g0 := hG.1
  intro n
  induction n with
  | zero => intro t m _ h; omega
  | succ n ih =>
    intro p m hp hn hE hR
    have s0 := hR.1
    rw [X10_missed_20]
    by_cases h8 : p = G 0 0
    · unfold msR
      by_cases w0 : w = 0
      · simp (disch := omega) only [leT, leF, ltT, ltF, eqT, eqF, inT, n_cl, nI_add, pk_mul, n_div, pk_sub, md8, md2, or_true, true_or, or_false, false_or, Bool.true_eq_false, Bool.false_eq_true, L0, L1, L2, L3, L4, L5, L6, L7, L8, L9, L10, L20, L31, L40, L64, L99, L100, L255, L256, L999, L1000, L99999, ↓reduceIte, L11, L12, L13, L14, L15, L16, L30, L48, L160, K1, K2, K3, K4, K5, K7, K8, K9, K15, K17, K20, K27, K37, K48, K99, K255, inR, isPlace_r, isPlace_c, isSheet_r, s0, h8, w0]
        exact ⟨m, rfl, hR, Bk_r m⟩
      · simp (disch := omega) only [leT, leF, ltT, ltF, eqT, eqF, inT, n_cl, nI_add, pk_mul, n_div, pk_sub, md8, md2, or_true, true_or, or_false, false_or, Bool.true_eq_false, Bool.false_eq_true, L0, L1, L2, L3, L4, L5, L6, L7, L8, L9, L10, L20, L31, L40, L64, L99, L100, L255, L256, L999, L1000, L99999, ↓reduceIte, L11, L12, L13, L14, L15, L16, L30, L48, L160, K1, K2, K3, K4, K5, K7, K8, K9, K15, K17, K20, K27, K37, K48, K99, K255, inR, isPlace_r, isPlace_c, isSheet_r, s0, h8, w0]
        exact ⟨m, rfl, hR, Bk_r m⟩
    · obtain ⟨ma, a1, a2, a3⟩ := aside_r m hR
      have u1 := known_r hR hG
      have s4 := (hR.2.2.2.1 p (by omega)).2.2.1
      have h4 := (hG.2.2.2 p (by omega)).2.2.2.1
      have w9 := wyS_9 (G := G) (p := p) (G 0 0) g0
      rw [if_pos (by omega)] at w9
      have e1 : wyS G 9 (G 0 0) - popc (G 4 p) = wyS G p (G 0 0) := by omega
      obtain ⟨mb, b1, b2, b3⟩ := mis52 (cd := cd) (r := r) (p := p) (v1 := nI w) (X10_missed_20 n) hR hG (by omega) (msL_le p (by omega)) 10000 0 ma (by decide) (by decide) (Asd_re a2 hE) a3 a2
      obtain ⟨mc, c1, c2, c3⟩ := ih (p + 1) mb (by omega) (by omega) (Bk_re b3 hE) b2
      simp (disch := omega) only [leT, leF, ltT, ltF, eqT, eqF, inT, n_cl, nI_add, pk_mul, n_div, pk_sub, md8, md2, or_true, true_or, or_false, false_or, Bool.true_eq_false, Bool.false_eq_true, L0, L1, L2, L3, L4, L5, L6, L7, L8, L9, L10, L20, L31, L40, L64, L99, L100, L255, L256, L999, L1000, L99999, ↓reduceIte, L11, L12, L13, L14, L15, L16, L30, L48, L160, K1, K2, K3, K4, K5, K7, K8, K9, K15, K17, K20, K27, K37, K48, K99, K255, inR, isPlace_r, isPlace_c, isSheet_r, s0, u1, bi, knows_r (show p < 6 by omega), s4, bitsOf_r (show G 4 p < 256 by omega), a1, bv, e1]
      rw [b1]
      exact ⟨mc, c1, c2, Bk_t b3 c3⟩
end
theorem o_missed : ob_missed Iv := by
  rintro c nt z m a1 hc ⟨cd, r, rk, G, H, tp, n, ve, hv, hE, hW⟩
  have bad : Iv (c + 1) nt z m := Iv_0 hv hE hW
  have hG := hW.2.2.2.1
  have g0 := hG.1
  rcases dich a1 2 (by decide) with ⟨w, hw, rfl⟩ | ⟨d0, d⟩
  · obtain ⟨m1, x1, x2, x3⟩ := mis_c (cd := cd) (r := r) (z := z) (ve := ve) (w := w) hG hw 10000 0 m (Nat.zero_le _) (by omega) hE hW.2.1
    have W1 := IW_s x3 hW
    obtain ⟨m2, y1, y2, y3⟩ := mis_r (cd := cd) (r := r) (w := w) hG hw 10000 0 m1 (Nat.zero_le _) (by omega) W1.1 W1.2.2.1
    refine ⟨msR (msL cd r G (G 0 0)) w, m1, m2, ?_, ?_, Iv_b hv x2 W1 y2 y3⟩
    · unfold X9_missed
      simp (disch := omega) only [leT, leF, ltT, ltF, eqT, eqF, inT, n_cl, nI_add, pk_mul, n_div, pk_sub, md8, md2, or_true, true_or, or_false, false_or, Bool.true_eq_false, Bool.false_eq_true, L0, L1, L2, L3, L4, L5, L6, L7, L8, L9, L10, L20, L31, L40, L64, L99, L100, L255, L256, L999, L1000, L99999, ↓reduceIte, L11, L12, L13, L14, L15, L16, L30, L48, L160, K1, K2, K3, K4, K5, K7, K8, K9, K15, K17, K20, K27, K37, K48, K99, K255, inR, isPlace_r, isPlace_c, isSheet_r]
      exact x1
    · unfold X10_missed
      simp (disch := omega) only [leT, leF, ltT, ltF, eqT, eqF, inT, n_cl, nI_add, pk_mul, n_div, pk_sub, md8, md2, or_true, true_or, or_false, false_or, Bool.true_eq_false, Bool.false_eq_true, L0, L1, L2, L3, L4, L5, L6, L7, L8, L9, L10, L20, L31, L40, L64, L99, L100, L255, L256, L999, L1000, L99999, ↓reduceIte, L11, L12, L13, L14, L15, L16, L30, L48, L160, K1, K2, K3, K4, K5, K7, K8, K9, K15, K17, K20, K27, K37, K48, K99, K255, inR, isPlace_r, isPlace_c, isSheet_r, bi]
      exact y1
  · refine ⟨-nI 2, m, m, ?_, ?_, bad⟩
    · unfold X9_missed
      rcases d with d1 | ⟨d1, d2, d3, d4⟩
      · simp (disch := omega) only [leT, leF, ltT, ltF, eqT, eqF, inT, n_cl, nI_add, pk_mul, n_div, pk_sub, md8, md2, or_true, true_or, or_false, false_or, Bool.true_eq_false, Bool.false_eq_true, L0, L1, L2, L3, L4, L5, L6, L7, L8, L9, L10, L20, L31, L40, L64, L99, L100, L255, L256, L999, L1000, L99999, ↓reduceIte, L11, L12, L13, L14, L15, L16, L30, L48, L160, K1, K2, K3, K4, K5, K7, K8, K9, K15, K17, K20, K27, K37, K48, K99, K255, inR, isPlace_r, isPlace_c, isSheet_r, d1]
      · simp (disch := omega) only [leT, leF, ltT, ltF, eqT, eqF, inT, n_cl, nI_add, pk_mul, n_div, pk_sub, md8, md2, or_true, true_or, or_false, false_or, Bool.true_eq_false, Bool.false_eq_true, L0, L1, L2, L3, L4, L5, L6, L7, L8, L9, L10, L20, L31, L40, L64, L99, L100, L255, L256, L999, L1000, L99999, ↓reduceIte, L11, L12, L13, L14, L15, L16, L30, L48, L160, K1, K2, K3, K4, K5, K7, K8, K9, K15, K17, K20, K27, K37, K48, K99, K255, inR, isPlace_r, isPlace_c, isSheet_r, d1, d4 1 (by decide)]
    · unfold X10_missed
      simp (disch := omega) only [leT, leF, ltT, ltF, eqT, eqF, inT, n_cl, nI_add, pk_mul, n_div, pk_sub, md8, md2, or_true, true_or, or_false, false_or, Bool.true_eq_false, Bool.false_eq_true, L0, L1, L2, L3, L4, L5, L6, L7, L8, L9, L10, L20, L31, L40, L64, L99, L100, L255, L256, L999, L1000, L99999, ↓reduceIte, L11, L12, L13, L14, L15, L16, L30, L48, L160, K1, K2, K3, K4, K5, K7, K8, K9, K15, K17, K20, K27, K37, K48, K99, K255, inR, isPlace_r, isPlace_c, isSheet_r, bi, d0]
