/-! calls: gift -/
def gfV (cd : Nat → Cd) (r : Nat → Nat) (G : Fo) (p v : Nat) : Nat := wyS (rdA cd r 9 (gU G 4 p v) 8).2 9 (G 0 0)
def gfL (cd : Nat → Cd) (r : Nat → Nat) (G : Fo) (p : Nat) : Nat → Nat × Nat
  | 0 => (9, gfV cd r G p (G 4 p))
  | t + 1 => if kn G p t = true then gfL cd r G p t else if gfV cd r G p (G 4 p ||| 2 ^ t) ≤ (gfL cd r G p t).2 then gfL cd r G p t else (t, gfV cd r G p (G 4 p ||| 2 ^ t))
section
variable {c nt ve f R bu n w k p t v : Nat} {z : Nat → Nat} {m ma mb : Mem} {G G' H : Fo} {cd : Nat → Cd} {r rk : Nat → Nat} {tp : Nat → Nat} {x : Int32}
theorem gfV_le (hG : GO nt R G) (hv : v ≤ 255) : gfV cd r G p v ≤ 48 := by
  have h1 : GO nt R (gU G 4 p v) := GO_u (show v ≤ 255 from hv) hG
  obtain ⟨j1, j2, j3, j4⟩ := rdA_i (cd := cd) (r := r) (bu := 9) h1 8
  have := wyS_le (bu := 9) j1 (G 0 0) hG.1
  have := hG.1
  unfold gfV; omega
theorem wwg_c (hE : CE cd r nt z ve m) (hR : RF 5 m G) (hG : GO nt 999 G) (hp : p < 6) (hx : nI (G 4 p) ||| x = nI v) (hv : v ≤ 255) : ∃ m', X9_waysWithGift nt z (nI p) x m = some (nI (gfV cd r G p v), m') ∧ CE cd r nt z ve m' ∧ SF m m' := by
  obtain ⟨mt, t1, t2, t3, t4⟩ := think_c hE hR
  have h1 : GO nt 999 (gU G 4 p v) := GO_u (show v ≤ 255 from hv) hG
  have s4 : mt.1 27 p = nI (G 4 p) := t2.2 4 p (by decide) (by decide) hp
  have R2 : RF 23 (pI mt 27 p (nI v)) (gU G 4 p v) := RF_u (j := 4) (by decide) t2
  have E2 : CE cd r nt z ve (pI mt 27 p (nI v)) := CE_g t3 (fun x j h => by rw [rIn (by omega)]) (fun _ _ _ _ => rfl)
  obtain ⟨m1, i', x1, x2, x3, x4, x5, x6, x7⟩ := rounds_c (bu := 9) (k := 8) E2 R2 fo23 h1 (by decide) (by decide) (by decide)
  obtain ⟨j1, j2, j3, j4⟩ := rdA_i (cd := cd) (r := r) (bu := 9) h1 i'
  have u1 := ways_c (bu := 9) x3 j1 (by decide)
  rw [rd_0 h1 i', ← wyS_q x4, show gU G 4 p v 0 0 = G 0 0 from gU_n (by omega)] at u1
  have u1' : X0_ways 23 (-nI 1) m1 = some (nI (gfV cd r G p v), m1) := u1
  have x1' : X2_rounds nt z 23 (nI 8) (-nI 1) (pI mt 27 p (nI v)) = some (nI (rdA cd r 9 (gU G 4 p v) 8).1, m1) := x1
  refine ⟨m1, ?_, x2, SF_t t4 (SF_t (fun x j _ _ _ h _ _ _ _ => by rw [rIn (by omega)]) (SF_m x5))⟩
  unfold X9_waysWithGift
  simp (disch := omega) only [leT, leF, ltT, ltF, eqT, eqF, inT, n_cl, nI_add, pk_mul, n_div, pk_sub, md8, md2, or_true, true_or, or_false, false_or, Bool.true_eq_false, Bool.false_eq_true, L0, L1, L2, L3, L4, L5, L6, L7, L8, L9, L10, L20, L31, L40, L64, L99, L100, L255, L256, L999, L1000, L99999, ↓reduceIte, L11, L12, L13, L14, L15, L16, L30, L48, L160, K1, K2, K3, K4, K5, K7, K8, K9, K15, K17, K20, K27, K37, K48, K99, K255, inR, isPlace_r, isPlace_c, isSheet_r, t1, bv, s4, hx, x1', bi, u1']
theorem kby_l {m0 : Mem} {G0 : Fo} (hR0 : RR m0 G0) (hG : GO nt R G) (hk : k ≤ 1000) : ∀ n i m, i ≤ k → k - i < n → RE cd r nt m → RR m (rdA cd r 9 G i).2 → Asd m0 m → ∃ mb, X10_knownBy_21 n (nI k) (nI i) m = some (nI (wyS (rdA cd r 9 G k).2 9 (G 0 0)), mb) ∧ RR mb G0 ∧ Bk m0 mb := by
  intro n
  induction n with
  | zero => intro i m _ h; omega
  | succ n ih =>
    intro i m hi hn hE hR hA
    obtain ⟨j1, j2, j3, j4⟩ := rdA_i (cd := cd) (r := r) (bu := 9) hG i
    have n0 := rd_0 (cd := cd) (r := r) (bu := 9) hG i
    rw [X10_knownBy_21]
    by_cases h8 : i = k
    · subst h8
      obtain ⟨mb, b1, b2, b3⟩ := back_r hA hR0
      have u1 := known_r hR j1
      rw [n0] at u1
      simp (disch := omega) only [leT, leF, ltT, ltF, eqT, eqF, inT, n_cl, nI_add, pk_mul, n_div, pk_sub, md8, md2, or_true, true_or, or_false, false_or, Bool.true_eq_false, Bool.false_eq_true, L0, L1, L2, L3, L4, L5, L6, L7, L8, L9, L10, L20, L31, L40, L64, L99, L100, L255, L256, L999, L1000, L99999, ↓reduceIte, L11, L12, L13, L14, L15, L16, L30, L48, L160, K1, K2, K3, K4, K5, K7, K8, K9, K15, K17, K20, K27, K37, K48, K99, K255, inR, isPlace_r, isPlace_c, isSheet_r, u1, bi, b1, bv]
      exact ⟨mb, rfl, b2, b3⟩
    · obtain ⟨m1, y1, y2, y3⟩ := passes_r (bu := 9) hE hR j1 (by decide)
      have y1' : X10_passes (-nI 1) m = some (nI (passA cd r 9 (rdA cd r 9 G i).2).1, m1) := y1
      obtain ⟨mb, b1, b2, b3⟩ := ih (i + 1) m1 (by omega) (by omega) (FrT_re y3 hE) y2 (Asd_t hA y3)
      simp (disch := omega) only [leT, leF, ltT, ltF, eqT, eqF, inT, n_cl, nI_add, pk_mul, n_div, pk_sub, md8, md2, or_true, true_or, or_false, false_or, Bool.true_eq_false, Bool.false_eq_true, L0, L1, L2, L3, L4, L5, L6, L7, L8, L9, L10, L20, L31, L40, L64, L99, L100, L255, L256, L999, L1000, L99999, ↓reduceIte, L11, L12, L13, L14, L15, L16, L30, L48, L160, K1, K2, K3, K4, K5, K7, K8, K9, K15, K17, K20, K27, K37, K48, K99, K255, inR, isPlace_r, isPlace_c, isSheet_r, y1', bi]
      exact ⟨mb, b1, b2, b3⟩
theorem kby_r (hE : RE cd r nt m) (hR : RR m G) (hG : GO nt R G) (hp : p < 6) (hx : nI (G 4 p) ||| x = nI v) (hv : v ≤ 255) : ∃ mb, X10_knownBy (nI p) x (nI 8) m = some (nI (gfV cd r G p v), mb) ∧ RR mb G ∧ Bk m mb := by
  obtain ⟨ma, a1, a2, a3⟩ := aside_r m hR
  have h1 : GO nt R (gU G 4 p v) := GO_u (show v ≤ 255 from hv) hG
  have s4 := (a3.2.2.2.1 p hp).2.2.1
  have R2 : RR (pI ma 69 (5 * p + 2) (nI v)) (gU G 4 p v) := RR_u (j := 4) (by decide) (by decide) a3
  obtain ⟨mb, b1, b2, b3⟩ := kby_l (cd := cd) (r := r) (k := 8) hR h1 (by decide) 10000 0 (pI ma 69 (5 * p + 2) (nI v)) (Nat.zero_le _) (by decide) (RE_f (fun x j h => by rw [rIn (by omega)]) (Asd_re a2 hE)) R2 (Asd_69 a2)
  rw [show gU G 4 p v 0 0 = G 0 0 from gU_n (by omega)] at b1
  refine ⟨mb, ?_, b2, b3⟩
  unfold X10_knownBy
  simp (disch := omega) only [leT, leF, ltT, ltF, eqT, eqF, inT, n_cl, nI_add, pk_mul, n_div, pk_sub, md8, md2, or_true, true_or, or_false, false_or, Bool.true_eq_false, Bool.false_eq_true, L0, L1, L2, L3, L4, L5, L6, L7, L8, L9, L10, L20, L31, L40, L64, L99, L100, L255, L256, L999, L1000, L99999, ↓reduceIte, L11, L12, L13, L14, L15, L16, L30, L48, L160, K1, K2, K3, K4, K5, K7, K8, K9, K15, K17, K20, K27, K37, K48, K99, K255, inR, isPlace_r, isPlace_c, isSheet_r, a1, bv, s4, hx]
  exact b1
theorem gfL_le (hG : GO nt R G) (hp : p < 6) : ∀ t, t ≤ 8 → (gfL cd r G p t).2 ≤ 48 ∧ ((gfL cd r G p t).1 < 8 ∨ (gfL cd r G p t).1 = 9) := by
  have h4 := (hG.2.2.2 p hp).2.2.2.1
  intro t
  induction t with
  | zero => intro _; exact ⟨gfV_le hG h4, .inr rfl⟩
  | succ t ih =>
    intro ht
    rw [gfL]
    split
    · exact ih (by omega)
    · split
      · exact ih (by omega)
      · have := (or_n (G 4 p) (by omega) t (by omega)).2
        exact ⟨gfV_le hG (by omega), .inl (by show t < 8; omega)⟩
def gfR (s : Nat × Nat) (w : Nat) : Int32 := if w = 0 then nbI s.1 else nI s.2
theorem gft_c (hG : GO nt 999 G) (hp : p < 6) (hw : w < 2) : ∀ n t m, t ≤ 8 → 8 - t < n → CE cd r nt z ve m → RF 5 m G → ∃ m', X9_gift_33 nt z n (nI p) (nI w) (nbI (gfL cd r G p t).1) (nI (gfL cd r G p t).2) (nI t) m = some (gfR (gfL cd r G p 8) w, m') ∧ CE cd r nt z ve m' ∧ SF m m' := by
  intro n
  induction n with
  | zero => intro t m _ h; omega
  | succ n ih =>
    intro t m ht hn hE hR
    rw [X9_gift_33]
    by_cases h8 : t = 8
    · subst h8
      unfold gfR
      by_cases w0 : w = 0
      · simp (disch := omega) only [leT, leF, ltT, ltF, eqT, eqF, inT, n_cl, nI_add, pk_mul, n_div, pk_sub, md8, md2, or_true, true_or, or_false, false_or, Bool.true_eq_false, Bool.false_eq_true, L0, L1, L2, L3, L4, L5, L6, L7, L8, L9, L10, L20, L31, L40, L64, L99, L100, L255, L256, L999, L1000, L99999, ↓reduceIte, L11, L12, L13, L14, L15, L16, L30, L48, L160, K1, K2, K3, K4, K5, K7, K8, K9, K15, K17, K20, K27, K37, K48, K99, K255, inR, isPlace_r, isPlace_c, isSheet_r, w0]
        exact ⟨m, rfl, hE, SF_r m⟩
      · simp (disch := omega) only [leT, leF, ltT, ltF, eqT, eqF, inT, n_cl, nI_add, pk_mul, n_div, pk_sub, md8, md2, or_true, true_or, or_false, false_or, Bool.true_eq_false, Bool.false_eq_true, L0, L1, L2, L3, L4, L5, L6, L7, L8, L9, L10, L20, L31, L40, L64, L99, L100, L255, L256, L999, L1000, L99999, ↓reduceIte, L11, L12, L13, L14, L15, L16, L30, L48, L160, K1, K2, K3, K4, K5, K7, K8, K9, K15, K17, K20, K27, K37, K48, K99, K255, inR, isPlace_r, isPlace_c, isSheet_r, w0]
        exact ⟨m, rfl, hE, SF_r m⟩
    · have kc := known_c (t := t) hp hR
      have h4 := (hG.2.2.2 p hp).2.2.2.1
      obtain ⟨o1, o2⟩ := or_n (G 4 p) (by omega) t (by omega)
      have hl := (gfL_le (cd := cd) (r := r) hG hp t ht).1
      have hgl := gfV_le (cd := cd) (r := r) (p := p) hG (show G 4 p ||| 2 ^ t ≤ 255 by omega)
      rcases q : kn G p t with _ | _
      · rw [q] at kc
        obtain ⟨m1, x1, x2, x3⟩ := wwg_c (x := nI 1 <<< (nI t &&& nI 31)) hE hR hG hp o1 (by omega)
        obtain ⟨m2, y1, y2, y3⟩ := ih (t + 1) m1 (by omega) (by omega) x2 (RF_g (fun a j h1 h2 => x3 a j (by omega) (by omega) (by omega) (by omega) (by omega) (by omega) (by omega) (by omega)) hR)
        rw [gfL, q, if_neg (by decide)] at y1
        by_cases q2 : gfV cd r G p (G 4 p ||| 2 ^ t) ≤ (gfL cd r G p t).2
        · rw [if_pos q2] at y1
          simp (disch := omega) only [leT, leF, ltT, ltF, eqT, eqF, inT, n_cl, nI_add, pk_mul, n_div, pk_sub, md8, md2, or_true, true_or, or_false, false_or, Bool.true_eq_false, Bool.false_eq_true, L0, L1, L2, L3, L4, L5, L6, L7, L8, L9, L10, L20, L31, L40, L64, L99, L100, L255, L256, L999, L1000, L99999, ↓reduceIte, L11, L12, L13, L14, L15, L16, L30, L48, L160, K1, K2, K3, K4, K5, K7, K8, K9, K15, K17, K20, K27, K37, K48, K99, K255, inR, isPlace_r, isPlace_c, isSheet_r, kc, bi, b01, x1, X9_gift_81]
          exact ⟨m2, y1, y2, SF_t x3 y3⟩
        · rw [if_neg q2] at y1
          have hn9 : nbI t = nI t := by unfold nbI; rw [if_neg (by omega)]
          simp only [hn9] at y1
          simp (disch := omega) only [leT, leF, ltT, ltF, eqT, eqF, inT, n_cl, nI_add, pk_mul, n_div, pk_sub, md8, md2, or_true, true_or, or_false, false_or, Bool.true_eq_false, Bool.false_eq_true, L0, L1, L2, L3, L4, L5, L6, L7, L8, L9, L10, L20, L31, L40, L64, L99, L100, L255, L256, L999, L1000, L99999, ↓reduceIte, L11, L12, L13, L14, L15, L16, L30, L48, L160, K1, K2, K3, K4, K5, K7, K8, K9, K15, K17, K20, K27, K37, K48, K99, K255, inR, isPlace_r, isPlace_c, isSheet_r, kc, bi, b01, x1, X9_gift_81]
          exact ⟨m2, y1, y2, SF_t x3 y3⟩
      · rw [q] at kc
        obtain ⟨m2, y1, y2, y3⟩ := ih (t + 1) m (by omega) (by omega) hE hR
        rw [gfL, if_pos q] at y1
        simp (disch := omega) only [leT, leF, ltT, ltF, eqT, eqF, inT, n_cl, nI_add, pk_mul, n_div, pk_sub, md8, md2, or_true, true_or, or_false, false_or, Bool.true_eq_false, Bool.false_eq_true, L0, L1, L2, L3, L4, L5, L6, L7, L8, L9, L10, L20, L31, L40, L64, L99, L100, L255, L256, L999, L1000, L99999, ↓reduceIte, L11, L12, L13, L14, L15, L16, L30, L48, L160, K1, K2, K3, K4, K5, K7, K8, K9, K15, K17, K20, K27, K37, K48, K99, K255, inR, isPlace_r, isPlace_c, isSheet_r, kc, bi, b01, X9_gift_81]
        exact ⟨m2, y1, y2, y3⟩
theorem gft_r (hG : GO nt R G) (hp : p < 6) (hw : w < 2) : ∀ n t m, t ≤ 8 → 8 - t < n → RE cd r nt m → RR m G → ∃ m', X10_gift_36 n (nI p) (nI w) (nbI (gfL cd r G p t).1) (nI (gfL cd r G p t).2) (nI t) m = some (gfR (gfL cd r G p 8) w, m') ∧ RR m' G ∧ Bk m m' := by
  intro n
  induction n with
  | zero => intro t m _ h; omega
  | succ n ih =>
    intro t m ht hn hE hR
    rw [X10_gift_36]
    by_cases h8 : t = 8
    · subst h8
      unfold gfR
      by_cases w0 : w = 0
      · simp (disch := omega) only [leT, leF, ltT, ltF, eqT, eqF, inT, n_cl, nI_add, pk_mul, n_div, pk_sub, md8, md2, or_true, true_or, or_false, false_or, Bool.true_eq_false, Bool.false_eq_true, L0, L1, L2, L3, L4, L5, L6, L7, L8, L9, L10, L20, L31, L40, L64, L99, L100, L255, L256, L999, L1000, L99999, ↓reduceIte, L11, L12, L13, L14, L15, L16, L30, L48, L160, K1, K2, K3, K4, K5, K7, K8, K9, K15, K17, K20, K27, K37, K48, K99, K255, inR, isPlace_r, isPlace_c, isSheet_r, w0]
        exact ⟨m, rfl, hR, Bk_r m⟩
      · simp (disch := omega) only [leT, leF, ltT, ltF, eqT, eqF, inT, n_cl, nI_add, pk_mul, n_div, pk_sub, md8, md2, or_true, true_or, or_false, false_or, Bool.true_eq_false, Bool.false_eq_true, L0, L1, L2, L3, L4, L5, L6, L7, L8, L9, L10, L20, L31, L40, L64, L99, L100, L255, L256, L999, L1000, L99999, ↓reduceIte, L11, L12, L13, L14, L15, L16, L30, L48, L160, K1, K2, K3, K4, K5, K7, K8, K9, K15, K17, K20, K27, K37, K48, K99, K255, inR, isPlace_r, isPlace_c, isSheet_r, w0]
        exact ⟨m, rfl, hR, Bk_r m⟩
    · have s4 := (hR.2.2.2.1 p hp).2.2.1
      have hkd : bp (nI (G 4 p)) t = kn G p t := rfl
      have h4 := (hG.2.2.2 p hp).2.2.2.1
      obtain ⟨o1, o2⟩ := or_n (G 4 p) (by omega) t (by omega)
      have hl := (gfL_le (cd := cd) (r := r) hG hp t ht).1
      have hgl := gfV_le (cd := cd) (r := r) (p := p) hG (show G 4 p ||| 2 ^ t ≤ 255 by omega)
      rcases q : kn G p t with _ | _
      · obtain ⟨m1, x1, x2, x3⟩ := kby_r (x := nI 1 <<< (nI t &&& nI 31)) hE hR hG hp o1 (by omega)
        obtain ⟨m2, y1, y2, y3⟩ := ih (t + 1) m1 (by omega) (by omega) (Bk_re x3 hE) x2
        rw [gfL, q, if_neg (by decide)] at y1
        by_cases q2 : gfV cd r G p (G 4 p ||| 2 ^ t) ≤ (gfL cd r G p t).2
        · rw [if_pos q2] at y1
          simp (disch := omega) only [leT, leF, ltT, ltF, eqT, eqF, inT, n_cl, nI_add, pk_mul, n_div, pk_sub, md8, md2, or_true, true_or, or_false, false_or, Bool.true_eq_false, Bool.false_eq_true, L0, L1, L2, L3, L4, L5, L6, L7, L8, L9, L10, L20, L31, L40, L64, L99, L100, L255, L256, L999, L1000, L99999, ↓reduceIte, L11, L12, L13, L14, L15, L16, L30, L48, L160, K1, K2, K3, K4, K5, K7, K8, K9, K15, K17, K20, K27, K37, K48, K99, K255, inR, isPlace_r, isPlace_c, isSheet_r, knows_r hp, bi, s4, bp_t, hkd, q, x1, X10_gift_72, X10_gift_88]
          exact ⟨m2, y1, y2, Bk_t x3 y3⟩
        · rw [if_neg q2] at y1
          have hn9 : nbI t = nI t := by unfold nbI; rw [if_neg (by omega)]
          simp only [hn9] at y1
          simp (disch := omega) only [leT, leF, ltT, ltF, eqT, eqF, inT, n_cl, nI_add, pk_mul, n_div, pk_sub, md8, md2, or_true, true_or, or_false, false_or, Bool.true_eq_false, Bool.false_eq_true, L0, L1, L2, L3, L4, L5, L6, L7, L8, L9, L10, L20, L31, L40, L64, L99, L100, L255, L256, L999, L1000, L99999, ↓reduceIte, L11, L12, L13, L14, L15, L16, L30, L48, L160, K1, K2, K3, K4, K5, K7, K8, K9, K15, K17, K20, K27, K37, K48, K99, K255, inR, isPlace_r, isPlace_c, isSheet_r, knows_r hp, bi, s4, bp_t, hkd, q, x1, X10_gift_72, X10_gift_88]
          exact ⟨m2, y1, y2, Bk_t x3 y3⟩
      · obtain ⟨m2, y1, y2, y3⟩ := ih (t + 1) m (by omega) (by omega) hE hR
        rw [gfL, if_pos q] at y1
        have hng : (-nI 1 ≤ nI (gfL cd r G p t).2) = True := ng_le (by omega) (eq_true (by decide))
        simp (disch := omega) only [leT, leF, ltT, ltF, eqT, eqF, inT, n_cl, nI_add, pk_mul, n_div, pk_sub, md8, md2, or_true, true_or, or_false, false_or, Bool.true_eq_false, Bool.false_eq_true, L0, L1, L2, L3, L4, L5, L6, L7, L8, L9, L10, L20, L31, L40, L64, L99, L100, L255, L256, L999, L1000, L99999, ↓reduceIte, L11, L12, L13, L14, L15, L16, L30, L48, L160, K1, K2, K3, K4, K5, K7, K8, K9, K15, K17, K20, K27, K37, K48, K99, K255, inR, isPlace_r, isPlace_c, isSheet_r, knows_r hp, bi, s4, bp_t, hkd, q, X10_gift_72, X10_gift_88, hng]
        exact ⟨m2, y1, y2, y3⟩
end
theorem o_gift : ob_gift Iv := by
  rintro c nt z m a1 a2 hc ⟨cd, r, rk, G, H, tp, n, ve, hv, hE, hW⟩
  have bad : Iv (c + 1) nt z m := Iv_0 hv hE hW
  have hG := hW.2.2.2.1
  have g0 := hG.1
  have pc := fun x => isPerson_c g0 x m (hW.2.1.1 0 (by decide))
  have pr := fun x => isOne_r g0 x m hW.2.2.1.1
  rcases dich a1 (G 0 0) (by omega) with ⟨p, hp, rfl⟩ | d
  · rcases dich a2 2 (by decide) with ⟨w, hw, rfl⟩ | ⟨d0, d⟩
    · have h4 := (hG.2.2.2 p (by omega)).2.2.2.1
      have o0 : nI (G 4 p) ||| nI 0 = nI (G 4 p) := Int32.or_zero
      obtain ⟨m1, x1, x2, x3⟩ := wwg_c (x := nI 0) hE hW.2.1 hG (show p < 6 by omega) o0 h4
      obtain ⟨m2, y1, y2, y3⟩ := gft_c (cd := cd) (r := r) (z := z) (ve := ve) (p := p) (w := w) hG (by omega) hw 10000 0 m1 (by decide) (by decide) x2 (IW_s x3 hW).2.1
      have W2 := IW_s (SF_t x3 y3) hW
      have pr1 := fun x => isOne_r g0 x m2 W2.2.2.1.1
      obtain ⟨m3, u1, u2, u3⟩ := kby_r (x := nI 0) W2.1 W2.2.2.1 hG (show p < 6 by omega) o0 h4
      obtain ⟨m4, v1, v2, v3⟩ := gft_r (cd := cd) (r := r) (p := p) (w := w) hG (by omega) hw 10000 0 m3 (by decide) (by decide) (Bk_re u3 W2.1) u2
      refine ⟨gfR (gfL cd r G p 8) w, m2, m4, ?_, ?_, Iv_b hv y2 W2 v2 (Bk_t u3 v3)⟩
      · unfold X9_gift
        simp (disch := omega) only [leT, leF, ltT, ltF, eqT, eqF, inT, n_cl, nI_add, pk_mul, n_div, pk_sub, md8, md2, or_true, true_or, or_false, false_or, Bool.true_eq_false, Bool.false_eq_true, L0, L1, L2, L3, L4, L5, L6, L7, L8, L9, L10, L20, L31, L40, L64, L99, L100, L255, L256, L999, L1000, L99999, ↓reduceIte, L11, L12, L13, L14, L15, L16, L30, L48, L160, K1, K2, K3, K4, K5, K7, K8, K9, K15, K17, K20, K27, K37, K48, K99, K255, inR, isPlace_r, isPlace_c, isSheet_r, pc, bi, x1]
        exact y1
      · unfold X10_gift
        simp (disch := omega) only [leT, leF, ltT, ltF, eqT, eqF, inT, n_cl, nI_add, pk_mul, n_div, pk_sub, md8, md2, or_true, true_or, or_false, false_or, Bool.true_eq_false, Bool.false_eq_true, L0, L1, L2, L3, L4, L5, L6, L7, L8, L9, L10, L20, L31, L40, L64, L99, L100, L255, L256, L999, L1000, L99999, ↓reduceIte, L11, L12, L13, L14, L15, L16, L30, L48, L160, K1, K2, K3, K4, K5, K7, K8, K9, K15, K17, K20, K27, K37, K48, K99, K255, inR, isPlace_r, isPlace_c, isSheet_r, pr1, bi, u1]
        exact v1
    · refine ⟨-nI 2, m, m, ?_, ?_, bad⟩
      · unfold X9_gift
        rcases d with d1 | ⟨d1, d2, d3, d4⟩
        · simp (disch := omega) only [leT, leF, ltT, ltF, eqT, eqF, inT, n_cl, nI_add, pk_mul, n_div, pk_sub, md8, md2, or_true, true_or, or_false, false_or, Bool.true_eq_false, Bool.false_eq_true, L0, L1, L2, L3, L4, L5, L6, L7, L8, L9, L10, L20, L31, L40, L64, L99, L100, L255, L256, L999, L1000, L99999, ↓reduceIte, L11, L12, L13, L14, L15, L16, L30, L48, L160, K1, K2, K3, K4, K5, K7, K8, K9, K15, K17, K20, K27, K37, K48, K99, K255, inR, isPlace_r, isPlace_c, isSheet_r, pc, bi, d1]
        · simp (disch := omega) only [leT, leF, ltT, ltF, eqT, eqF, inT, n_cl, nI_add, pk_mul, n_div, pk_sub, md8, md2, or_true, true_or, or_false, false_or, Bool.true_eq_false, Bool.false_eq_true, L0, L1, L2, L3, L4, L5, L6, L7, L8, L9, L10, L20, L31, L40, L64, L99, L100, L255, L256, L999, L1000, L99999, ↓reduceIte, L11, L12, L13, L14, L15, L16, L30, L48, L160, K1, K2, K3, K4, K5, K7, K8, K9, K15, K17, K20, K27, K37, K48, K99, K255, inR, isPlace_r, isPlace_c, isSheet_r, pc, bi, d1, d4 1 (by decide)]
      · unfold X10_gift
        simp (disch := omega) only [leT, leF, ltT, ltF, eqT, eqF, inT, n_cl, nI_add, pk_mul, n_div, pk_sub, md8, md2, or_true, true_or, or_false, false_or, Bool.true_eq_false, Bool.false_eq_true, L0, L1, L2, L3, L4, L5, L6, L7, L8, L9, L10, L20, L31, L40, L64, L99, L100, L255, L256, L999, L1000, L99999, ↓reduceIte, L11, L12, L13, L14, L15, L16, L30, L48, L160, K1, K2, K3, K4, K5, K7, K8, K9, K15, K17, K20, K27, K37, K48, K99, K255, inR, isPlace_r, isPlace_c, isSheet_r, pr, bi, d0]
  · refine ⟨-nI 2, m, m, ?_, ?_, bad⟩
    · unfold X9_gift
      simp (disch := omega) only [leT, leF, ltT, ltF, eqT, eqF, inT, n_cl, nI_add, pk_mul, n_div, pk_sub, md8, md2, or_true, true_or, or_false, false_or, Bool.true_eq_false, Bool.false_eq_true, L0, L1, L2, L3, L4, L5, L6, L7, L8, L9, L10, L20, L31, L40, L64, L99, L100, L255, L256, L999, L1000, L99999, ↓reduceIte, L11, L12, L13, L14, L15, L16, L30, L48, L160, K1, K2, K3, K4, K5, K7, K8, K9, K15, K17, K20, K27, K37, K48, K99, K255, inR, isPlace_r, isPlace_c, isSheet_r, pc, bi, d.1]
    · unfold X10_gift
      simp (disch := omega) only [leT, leF, ltT, ltF, eqT, eqF, inT, n_cl, nI_add, pk_mul, n_div, pk_sub, md8, md2, or_true, true_or, or_false, false_or, Bool.true_eq_false, Bool.false_eq_true, L0, L1, L2, L3, L4, L5, L6, L7, L8, L9, L10, L20, L31, L40, L64, L99, L100, L255, L256, L999, L1000, L99999, ↓reduceIte, L11, L12, L13, L14, L15, L16, L30, L48, L160, K1, K2, K3, K4, K5, K7, K8, K9, K15, K17, K20, K27, K37, K48, K99, K255, inR, isPlace_r, isPlace_c, isSheet_r, pr, bi, d.1]
