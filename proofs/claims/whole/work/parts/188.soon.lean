/-! calls: soon -/
def snV (cd : Nat → Cd) (r : Nat → Nat) (G : Fo) (p t : Nat) : Nat → Nat → Nat
  | 0, i => i
  | n + 1, i => if kn (rdA cd r 9 G i).2 p t = true then i else snV cd r G p t n (i + 1)
def snI (v : Nat) : Int32 := if v ≤ 20 then nI v else -nI 1
section
variable {c nt ve f R bu n w k p t : Nat} {z : Nat → Nat} {m ma mb : Mem} {G G' H : Fo} {cd : Nat → Cd} {r rk : Nat → Nat} {tp : Nat → Nat}
theorem snV_n : ∀ n i, (∀ j, i ≤ j → j < i + n → kn (rdA cd r 9 G j).2 p t = false) → snV cd r G p t n i = i + n := by
  intro n
  induction n with
  | zero => intro i _; rfl
  | succ n ih =>
    intro i h
    rw [snV, if_neg (by rw [h i (by omega) (by omega)]; decide), ih (i + 1) (fun j a b => h j (by omega) (by omega))]
    omega
theorem rests_n {i : Nat} (hG : GO nt R G) (h0 : fO (cd (G 0 2)) = 0) (hz : (passA cd r 9 (rdA cd r 9 G i).2).1 = 0) (hk : kn (rdA cd r 9 G i).2 p t = false) (hi : i ≤ 20) : snV cd r G p t (21 - i) i = 21 := by
  rw [snV_n (21 - i) i (fun j h1 h2 => ?_)]
  · omega
  · by_cases q : j = i
    · rw [q]; exact hk
    · obtain ⟨t1, t2⟩ := rest_l (r := r) (bu := 9) hG h0 hz (j - (i + 1))
      rw [show i + 1 + (j - (i + 1)) = j by omega] at t2
      rw [kn_q t2]
      have e1 : (rdA cd r 9 G (i + 1)).2 = rnd (rdA cd r 9 G i).2 := by rw [rdA]; exact pass_0 hz
      rw [e1, kn_q (Rq_n _)]; exact hk
theorem soon_c (hG : GO nt 999 G) (hp : p < G 0 0) (ht : t < 8) : ∀ n i m, i ≤ 20 → 20 - i < n → CE cd r nt z ve m → RF 23 m (rdA cd r 9 G i).2 → ∃ m', X9_soon_31 nt z n (nI p) (nI t) (nI i) m = some (snI (snV cd r G p t (21 - i) i), m') ∧ CE cd r nt z ve m' ∧ FrM 23 m m' := by
  have g0 := hG.1
  intro n
  induction n with
  | zero => intro i m _ h; omega
  | succ n ih =>
    intro i m hi hn hE hR
    have kc := known_c (t := t) (show p < 6 by omega) hR
    obtain ⟨j1, j2, j3, j4⟩ := rdA_i (cd := cd) (r := r) (bu := 9) hG i
    rw [X9_soon_31]
    by_cases h20 : i = 20
    · subst h20
      rcases q : kn (rdA cd r 9 G 20).2 p t with _ | _
      · rw [q] at kc
        have e : snV cd r G p t (21 - 20) 20 = 21 := by show (if kn (rdA cd r 9 G 20).2 p t = true then 20 else 21) = 21; rw [q]; rfl
        rw [e]
        simp (disch := omega) only [leT, leF, ltT, ltF, eqT, eqF, inT, n_cl, nI_add, pk_mul, n_div, pk_sub, md8, md2, or_true, true_or, or_false, false_or, Bool.true_eq_false, Bool.false_eq_true, L0, L1, L2, L3, L4, L5, L6, L7, L8, L9, L10, L20, L31, L40, L64, L99, L100, L255, L256, L999, L1000, L99999, ↓reduceIte, L11, L12, L13, L14, L15, L16, L30, L48, L160, K1, K2, K3, K4, K5, K7, K8, K9, K15, K17, K20, K27, K37, K48, K99, K255, inR, isPlace_r, isPlace_c, isSheet_r, kc, bi, b01]
        exact ⟨m, rfl, hE, FrM_r m⟩
      · rw [q] at kc
        have e : snV cd r G p t (21 - 20) 20 = 20 := by show (if kn (rdA cd r 9 G 20).2 p t = true then 20 else 21) = 20; rw [q]; rfl
        rw [e]
        simp (disch := omega) only [leT, leF, ltT, ltF, eqT, eqF, inT, n_cl, nI_add, pk_mul, n_div, pk_sub, md8, md2, or_true, true_or, or_false, false_or, Bool.true_eq_false, Bool.false_eq_true, L0, L1, L2, L3, L4, L5, L6, L7, L8, L9, L10, L20, L31, L40, L64, L99, L100, L255, L256, L999, L1000, L99999, ↓reduceIte, L11, L12, L13, L14, L15, L16, L30, L48, L160, K1, K2, K3, K4, K5, K7, K8, K9, K15, K17, K20, K27, K37, K48, K99, K255, inR, isPlace_r, isPlace_c, isSheet_r, kc, bi, b01]
        exact ⟨m, rfl, hE, FrM_r m⟩
    · have st : snV cd r G p t (21 - i) i = if kn (rdA cd r 9 G i).2 p t = true then i else snV cd r G p t (21 - (i + 1)) (i + 1) := by
        rw [show 21 - i = (21 - (i + 1)) + 1 by omega, snV]
      rcases q : kn (rdA cd r 9 G i).2 p t with _ | _
      · rw [q] at kc
        have hru : (rdA cd r 9 G i).2 0 2 = G 0 2 := j4 0 2 (by decide) (by decide) (by omega)
        have j1' : GO nt (999 + i) (rdA cd r 9 G i).2 := j1
        obtain ⟨m1, i', x1, x2, x3, x4, x5, x6, x7⟩ := rounds_c (bu := 9) (k := 1) hE hR fo23 j1' (by decide) (by omega) (by decide)
        have hi1 : i' = 1 := by omega
        subst hi1
        have x1' : X2_rounds nt z 23 (nI 1) (-nI 1) m = some (nI (passA cd r 9 (rdA cd r 9 G i).2).1, m1) := by
          have e1 : (rdA cd r 9 (rdA cd r 9 G i).2 1).1 = (passA cd r 9 (rdA cd r 9 G i).2).1 := by show 0 + (passA cd r 9 (rdA cd r 9 G i).2).1 = _; omega
          rw [e1] at x1; exact x1
        have x3' : RF 23 m1 (rdA cd r 9 G (i + 1)).2 := x3
        have hl := (passA_i (cd := cd) (r := r) (bu := 9) j1').2.1
        obtain ⟨k1, k2, k3, k4⟩ := rdA_i (cd := cd) (r := r) (bu := 9) hG (i + 1)
        have rs := rests_c x2 x3' k1
        rw [k4 0 2 (by decide) (by decide) (by omega)] at rs
        have hf1 := fO_le (cd (G 0 2))
        obtain ⟨m2, b1, b2, b3⟩ := ih (i + 1) m1 (by omega) (by omega) x2 x3'
        rw [q, if_neg (by decide)] at st
        by_cases z0 : (passA cd r 9 (rdA cd r 9 G i).2).1 = 0
        · by_cases f0 : fO (cd (G 0 2)) = 0
          · have e := rests_n hG f0 z0 q (by omega)
            rw [e]
            simp (disch := omega) only [leT, leF, ltT, ltF, eqT, eqF, inT, n_cl, nI_add, pk_mul, n_div, pk_sub, md8, md2, or_true, true_or, or_false, false_or, Bool.true_eq_false, Bool.false_eq_true, L0, L1, L2, L3, L4, L5, L6, L7, L8, L9, L10, L20, L31, L40, L64, L99, L100, L255, L256, L999, L1000, L99999, ↓reduceIte, L11, L12, L13, L14, L15, L16, L30, L48, L160, K1, K2, K3, K4, K5, K7, K8, K9, K15, K17, K20, K27, K37, K48, K99, K255, inR, isPlace_r, isPlace_c, isSheet_r, kc, bi, b01, x1', z0, rs, f0]
            exact ⟨m1, rfl, x2, x5⟩
          · rw [st]
            simp (disch := omega) only [leT, leF, ltT, ltF, eqT, eqF, inT, n_cl, nI_add, pk_mul, n_div, pk_sub, md8, md2, or_true, true_or, or_false, false_or, Bool.true_eq_false, Bool.false_eq_true, L0, L1, L2, L3, L4, L5, L6, L7, L8, L9, L10, L20, L31, L40, L64, L99, L100, L255, L256, L999, L1000, L99999, ↓reduceIte, L11, L12, L13, L14, L15, L16, L30, L48, L160, K1, K2, K3, K4, K5, K7, K8, K9, K15, K17, K20, K27, K37, K48, K99, K255, inR, isPlace_r, isPlace_c, isSheet_r, kc, bi, b01, x1', z0, rs, show fO (cd (G 0 2)) = 1 by omega, X9_soon_87]
            exact ⟨m2, b1, b2, FrM_t x5 b3⟩
        · rw [st]
          simp (disch := omega) only [leT, leF, ltT, ltF, eqT, eqF, inT, n_cl, nI_add, pk_mul, n_div, pk_sub, md8, md2, or_true, true_or, or_false, false_or, Bool.true_eq_false, Bool.false_eq_true, L0, L1, L2, L3, L4, L5, L6, L7, L8, L9, L10, L20, L31, L40, L64, L99, L100, L255, L256, L999, L1000, L99999, ↓reduceIte, L11, L12, L13, L14, L15, L16, L30, L48, L160, K1, K2, K3, K4, K5, K7, K8, K9, K15, K17, K20, K27, K37, K48, K99, K255, inR, isPlace_r, isPlace_c, isSheet_r, kc, bi, b01, x1', z0, X9_soon_87]
          exact ⟨m2, b1, b2, FrM_t x5 b3⟩
      · rw [q] at kc
        rw [q, if_pos rfl] at st
        rw [st]
        unfold snI
        rw [if_pos hi]
        simp (disch := omega) only [leT, leF, ltT, ltF, eqT, eqF, inT, n_cl, nI_add, pk_mul, n_div, pk_sub, md8, md2, or_true, true_or, or_false, false_or, Bool.true_eq_false, Bool.false_eq_true, L0, L1, L2, L3, L4, L5, L6, L7, L8, L9, L10, L20, L31, L40, L64, L99, L100, L255, L256, L999, L1000, L99999, ↓reduceIte, L11, L12, L13, L14, L15, L16, L30, L48, L160, K1, K2, K3, K4, K5, K7, K8, K9, K15, K17, K20, K27, K37, K48, K99, K255, inR, isPlace_r, isPlace_c, isSheet_r, kc, bi, b01]
        exact ⟨m, rfl, hE, FrM_r m⟩
theorem soon_r {m0 : Mem} (hR0 : RR m0 G) (hG : GO nt R G) (hp : p < G 0 0) (ht : t < 8) : ∀ n i m, i ≤ 21 → 21 - i < n → RE cd r nt m → RR m (rdA cd r 9 G i).2 → Asd m0 m → ∃ mb, X10_soon_24 n (nI p) (nI t) (nI i) m = some (snI (snV cd r G p t (21 - i) i), mb) ∧ RR mb G ∧ Bk m0 mb := by
  have g0 := hG.1
  intro n
  induction n with
  | zero => intro i m _ h; omega
  | succ n ih =>
    intro i m hi hn hE hR hA
    obtain ⟨j1, j2, j3, j4⟩ := rdA_i (cd := cd) (r := r) (bu := 9) hG i
    obtain ⟨mb, b1, b2, b3⟩ := back_r hA hR0
    rw [X10_soon_24]
    by_cases h21 : i = 21
    · subst h21
      have e : snV cd r G p t (21 - 21) 21 = 21 := rfl
      rw [e]
      simp (disch := omega) only [leT, leF, ltT, ltF, eqT, eqF, inT, n_cl, nI_add, pk_mul, n_div, pk_sub, md8, md2, or_true, true_or, or_false, false_or, Bool.true_eq_false, Bool.false_eq_true, L0, L1, L2, L3, L4, L5, L6, L7, L8, L9, L10, L20, L31, L40, L64, L99, L100, L255, L256, L999, L1000, L99999, ↓reduceIte, L11, L12, L13, L14, L15, L16, L30, L48, L160, K1, K2, K3, K4, K5, K7, K8, K9, K15, K17, K20, K27, K37, K48, K99, K255, inR, isPlace_r, isPlace_c, isSheet_r, X10_soon_54, b1, bv]
      exact ⟨mb, rfl, b2, b3⟩
    · have st : snV cd r G p t (21 - i) i = if kn (rdA cd r 9 G i).2 p t = true then i else snV cd r G p t (21 - (i + 1)) (i + 1) := by
        rw [show 21 - i = (21 - (i + 1)) + 1 by omega, snV]
      have s4 := (hR.2.2.2.1 p (by omega)).2.2.1
      have hkd : bp (nI ((rdA cd r 9 G i).2 4 p)) t = kn (rdA cd r 9 G i).2 p t := rfl
      rcases q : kn (rdA cd r 9 G i).2 p t with _ | _
      · rw [q, if_neg (by decide)] at st
        obtain ⟨m1, y1, y2, y3⟩ := passes_r (bu := 9) hE hR j1 (by decide)
        have y1' : X10_passes (-nI 1) m = some (nI (passA cd r 9 (rdA cd r 9 G i).2).1, m1) := y1
        obtain ⟨mc, c1, c2, c3⟩ := ih (i + 1) m1 (by omega) (by omega) (FrT_re y3 hE) y2 (Asd_t hA y3)
        rw [st]
        simp (disch := omega) only [leT, leF, ltT, ltF, eqT, eqF, inT, n_cl, nI_add, pk_mul, n_div, pk_sub, md8, md2, or_true, true_or, or_false, false_or, Bool.true_eq_false, Bool.false_eq_true, L0, L1, L2, L3, L4, L5, L6, L7, L8, L9, L10, L20, L31, L40, L64, L99, L100, L255, L256, L999, L1000, L99999, ↓reduceIte, L11, L12, L13, L14, L15, L16, L30, L48, L160, K1, K2, K3, K4, K5, K7, K8, K9, K15, K17, K20, K27, K37, K48, K99, K255, inR, isPlace_r, isPlace_c, isSheet_r, knows_r (show p < 6 by omega), bi, s4, bp_f, hkd, q, y1']
        exact ⟨mc, c1, c2, c3⟩
      · rw [q, if_pos rfl] at st
        rw [st]
        unfold snI
        rw [if_pos (show i ≤ 20 by omega)]
        simp (disch := omega) only [leT, leF, ltT, ltF, eqT, eqF, inT, n_cl, nI_add, pk_mul, n_div, pk_sub, md8, md2, or_true, true_or, or_false, false_or, Bool.true_eq_false, Bool.false_eq_true, L0, L1, L2, L3, L4, L5, L6, L7, L8, L9, L10, L20, L31, L40, L64, L99, L100, L255, L256, L999, L1000, L99999, ↓reduceIte, L11, L12, L13, L14, L15, L16, L30, L48, L160, K1, K2, K3, K4, K5, K7, K8, K9, K15, K17, K20, K27, K37, K48, K99, K255, inR, isPlace_r, isPlace_c, isSheet_r, knows_r (show p < 6 by omega), bi, s4, bp_f, hkd, q, X10_soon_54, b1, bv]
        exact ⟨mb, rfl, b2, b3⟩
end
theorem o_soon : ob_soon Iv := by
  rintro c nt z m a1 a2 hc ⟨cd, r, rk, G, H, tp, n, ve, hv, hE, hW⟩
  have bad : Iv (c + 1) nt z m := Iv_0 hv hE hW
  have hG := hW.2.2.2.1
  have g0 := hG.1
  have pc := fun x => isPerson_c g0 x m (hW.2.1.1 0 (by decide))
  have pr := fun x => isOne_r g0 x m hW.2.2.1.1
  rcases dich a1 (G 0 0) (by omega) with ⟨p, hp, rfl⟩ | d
  · rcases dich a2 8 (by decide) with ⟨t, ht, rfl⟩ | d
    · obtain ⟨mt, t1, t2, t3, t4⟩ := think_c hE hW.2.1
      obtain ⟨m1, x1, x2, x3⟩ := soon_c (cd := cd) (r := r) (z := z) (ve := ve) hG hp ht 10000 0 mt (by decide) (by decide) t3 t2
      have W1 := IW_s (SF_t t4 (SF_m x3)) hW
      obtain ⟨ma, a1, a2, a3⟩ := aside_r m1 W1.2.2.1
      obtain ⟨mb, b1, b2, b3⟩ := soon_r (cd := cd) (r := r) W1.2.2.1 hG hp ht 10000 0 ma (by decide) (by decide) (Asd_re a2 W1.1) a3 a2
      have pr1 := fun x => isOne_r g0 x m1 W1.2.2.1.1
      refine ⟨snI (snV cd r G p t 21 0), m1, mb, ?_, ?_, Iv_b hv x2 W1 b2 b3⟩
      · unfold X9_soon
        simp (disch := omega) only [leT, leF, ltT, ltF, eqT, eqF, inT, n_cl, nI_add, pk_mul, n_div, pk_sub, md8, md2, or_true, true_or, or_false, false_or, Bool.true_eq_false, Bool.false_eq_true, L0, L1, L2, L3, L4, L5, L6, L7, L8, L9, L10, L20, L31, L40, L64, L99, L100, L255, L256, L999, L1000, L99999, ↓reduceIte, L11, L12, L13, L14, L15, L16, L30, L48, L160, K1, K2, K3, K4, K5, K7, K8, K9, K15, K17, K20, K27, K37, K48, K99, K255, inR, isPlace_r, isPlace_c, isSheet_r, pc, bi, bv, t1]
        exact x1
      · unfold X10_soon
        simp (disch := omega) only [leT, leF, ltT, ltF, eqT, eqF, inT, n_cl, nI_add, pk_mul, n_div, pk_sub, md8, md2, or_true, true_or, or_false, false_or, Bool.true_eq_false, Bool.false_eq_true, L0, L1, L2, L3, L4, L5, L6, L7, L8, L9, L10, L20, L31, L40, L64, L99, L100, L255, L256, L999, L1000, L99999, ↓reduceIte, L11, L12, L13, L14, L15, L16, L30, L48, L160, K1, K2, K3, K4, K5, K7, K8, K9, K15, K17, K20, K27, K37, K48, K99, K255, inR, isPlace_r, isPlace_c, isSheet_r, pr1, bi, bv, a1]
        exact b1
    · refine ⟨-nI 2, m, m, ?_, ?_, bad⟩
      · unfold X9_soon
        simp (disch := omega) only [leT, leF, ltT, ltF, eqT, eqF, inT, n_cl, nI_add, pk_mul, n_div, pk_sub, md8, md2, or_true, true_or, or_false, false_or, Bool.true_eq_false, Bool.false_eq_true, L0, L1, L2, L3, L4, L5, L6, L7, L8, L9, L10, L20, L31, L40, L64, L99, L100, L255, L256, L999, L1000, L99999, ↓reduceIte, L11, L12, L13, L14, L15, L16, L30, L48, L160, K1, K2, K3, K4, K5, K7, K8, K9, K15, K17, K20, K27, K37, K48, K99, K255, inR, isPlace_r, isPlace_c, isSheet_r, pc, bi, d.1]
      · unfold X10_soon
        simp (disch := omega) only [leT, leF, ltT, ltF, eqT, eqF, inT, n_cl, nI_add, pk_mul, n_div, pk_sub, md8, md2, or_true, true_or, or_false, false_or, Bool.true_eq_false, Bool.false_eq_true, L0, L1, L2, L3, L4, L5, L6, L7, L8, L9, L10, L20, L31, L40, L64, L99, L100, L255, L256, L999, L1000, L99999, ↓reduceIte, L11, L12, L13, L14, L15, L16, L30, L48, L160, K1, K2, K3, K4, K5, K7, K8, K9, K15, K17, K20, K27, K37, K48, K99, K255, inR, isPlace_r, isPlace_c, isSheet_r, pr, bi, d.1]
  · refine ⟨-nI 2, m, m, ?_, ?_, bad⟩
    · unfold X9_soon
      simp (disch := omega) only [leT, leF, ltT, ltF, eqT, eqF, inT, n_cl, nI_add, pk_mul, n_div, pk_sub, md8, md2, or_true, true_or, or_false, false_or, Bool.true_eq_false, Bool.false_eq_true, L0, L1, L2, L3, L4, L5, L6, L7, L8, L9, L10, L20, L31, L40, L64, L99, L100, L255, L256, L999, L1000, L99999, ↓reduceIte, L11, L12, L13, L14, L15, L16, L30, L48, L160, K1, K2, K3, K4, K5, K7, K8, K9, K15, K17, K20, K27, K37, K48, K99, K255, inR, isPlace_r, isPlace_c, isSheet_r, pc, bi, d.1]
    · unfold X10_soon
      simp (disch := omega) only [leT, leF, ltT, ltF, eqT, eqF, inT, n_cl, nI_add, pk_mul, n_div, pk_sub, md8, md2, or_true, true_or, or_false, false_or, Bool.true_eq_false, Bool.false_eq_true, L0, L1, L2, L3, L4, L5, L6, L7, L8, L9, L10, L20, L31, L40, L64, L99, L100, L255, L256, L999, L1000, L99999, ↓reduceIte, L11, L12, L13, L14, L15, L16, L30, L48, L160, K1, K2, K3, K4, K5, K7, K8, K9, K15, K17, K20, K27, K37, K48, K99, K255, inR, isPlace_r, isPlace_c, isSheet_r, pr, bi, d.1]
