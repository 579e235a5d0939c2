/-! deals -/
def FrM (f : Nat) (m m' : Mem) : Prop := (∀ x j, ¬ (x = 1 ∧ j = 3) → x ≠ 3 → ¬ (36 ≤ x ∧ x ≤ 49) → x ≠ f + 4 → x ≠ f + 6 → ¬ (x = f ∧ j = 1) → m'.1 x j = m.1 x j) ∧ ∀ x j, ¬ (38 ≤ x ∧ x ≤ 49) → m'.2 x j = m.2 x j
theorem FrM_r {f : Nat} (m : Mem) : FrM f m m := ⟨fun _ _ _ _ _ _ _ _ => rfl, fun _ _ _ => rfl⟩
theorem FrM_t {f : Nat} {a b d : Mem} (h : FrM f a b) (g : FrM f b d) : FrM f a d := ⟨fun x j p q s u v w => (g.1 x j p q s u v w).trans (h.1 x j p q s u v w), fun x j p => (g.2 x j p).trans (h.2 x j p)⟩
theorem FrM_x {f : Nat} {m m' : Mem} (h : FrX m m') : FrM f m m' := ⟨fun x j p q s _ _ _ => h.1 x j p q s, h.2⟩
theorem CE_fo {cd : Nat → Cd} {r : Nat → Nat} {nt ve : Nat} {z : Nat → Nat} {m m' : Mem} (hE : CE cd r nt z ve m) (h : ∀ x j, ¬ (5 ≤ x ∧ x ≤ 30) → ¬ (50 ≤ x ∧ x ≤ 51) → ¬ (55 ≤ x ∧ x ≤ 78) → x ≠ 0 → x ≠ 4 → m'.1 x j = m.1 x j) (h2 : ∀ x j, 38 ≤ x → x ≤ 49 → m'.2 x j = m.2 x j) : CE cd r nt z ve m' := by
  obtain ⟨e1, e2, e3, e4, e5, e6, e7, e8⟩ := hE
  refine ⟨e1, fun k hk => TxC_f (fun x j a b c => h x j (by omega) (by omega) (by omega) (by omega) (by omega)) (e2 k hk), e3, fun k hk => ?_, fun a ha hb t ht => ?_, ?_, e7, fun i hi => VwO_s (h2 _ _ (by omega) (by omega)) (h _ _ (by omega) (by omega) (by omega) (by omega) (by omega)) (fun j _ => h _ _ (by omega) (by omega) (by omega) (by omega) (by omega)) (e8 i hi)⟩
  · rw [h 2 k (by omega) (by omega) (by omega) (by omega) (by omega)]; exact e4 k hk
  · rw [h 1 3 (by omega) (by omega) (by omega) (by omega) (by omega)] at hb
    rw [h 3 _ (by omega) (by omega) (by omega) (by omega) (by omega)]; exact e5 a ha hb t ht
  · rw [h 1 4 (by omega) (by omega) (by omega) (by omega) (by omega)]; exact e6
section
variable {cd : Nat → Cd} {r : Nat → Nat} {nt ve f a b t pay R : Nat} {z : Nat → Nat} {m : Mem} {G : Nat → Nat → Nat}
theorem spend_c {p x v : Nat} (hp : p < 6) (hx : m.1 (f + 6) p = nI x) (hb : x + v < 2147483648) : X0_spend f (nI p) (nI v) m = some (pI m (f + 6) p (nI (min 99999 (x + v)))) := by
  unfold X0_spend
  by_cases h : x + v < 99999
  · simp (disch := omega) only [leT, leF, ltT, ltF, eqT, eqF, inT, n_cl, nI_add, pk_mul, n_div, pk_sub, md8, md2, or_true, true_or, or_false, false_or, Bool.true_eq_false, Bool.false_eq_true, L0, L1, L2, L3, L4, L5, L6, L7, L8, L9, L10, L20, L31, L40, L64, L99, L100, L255, L256, L999, L1000, L99999, ↓reduceIte, hx, Nat.min_eq_right]
  · simp (disch := omega) only [leT, leF, ltT, ltF, eqT, eqF, inT, n_cl, nI_add, pk_mul, n_div, pk_sub, md8, md2, or_true, true_or, or_false, false_or, Bool.true_eq_false, Bool.false_eq_true, L0, L1, L2, L3, L4, L5, L6, L7, L8, L9, L10, L20, L31, L40, L64, L99, L100, L255, L256, L999, L1000, L99999, ↓reduceIte, hx, Nat.min_eq_left]
theorem spend_r {p x v : Nat} (hp : p < 6) (hx : m.1 69 (5 * p + 4) = nI x) (hb : x + v < 2147483648) : X10_spends (nI p) (nI v) m = some (pI m 69 (5 * p + 4) (nI (min 99999 (x + v)))) := by
  unfold X10_spends X10_within
  by_cases h : x + v ≤ 99999
  · simp (disch := omega) only [leT, leF, ltT, ltF, eqT, eqF, inT, n_cl, nI_add, pk_mul, n_div, pk_sub, md8, md2, or_true, true_or, or_false, false_or, Bool.true_eq_false, Bool.false_eq_true, L0, L1, L2, L3, L4, L5, L6, L7, L8, L9, L10, L20, L31, L40, L64, L99, L100, L255, L256, L999, L1000, L99999, ↓reduceIte, hx, Nat.min_eq_right, bi]
  · simp (disch := omega) only [leT, leF, ltT, ltF, eqT, eqF, inT, n_cl, nI_add, pk_mul, n_div, pk_sub, md8, md2, or_true, true_or, or_false, false_or, Bool.true_eq_false, Bool.false_eq_true, L0, L1, L2, L3, L4, L5, L6, L7, L8, L9, L10, L20, L31, L40, L64, L99, L100, L255, L256, L999, L1000, L99999, ↓reduceIte, hx, Nat.min_eq_left, bi]
theorem deal_c (hE : CE cd r nt z ve m) (hR : RF f m G) (hG : GO nt 1019 G) (hf : isFo f) (ha : a < 6) (hb : b < 6) (hab : a ≠ b) (ht : t < 8) (hy : pay ≤ 8) : ∃ m', X2_deal nt z f (nI a) (nI b) (nI t) (nI pay) m = some m' ∧ CE cd r nt z ve m' ∧ RF f m' (dealA cd r G a b t pay) ∧ FrM f m m' := by
  have hff : f = 5 ∨ f = 16 ∨ f = 23 := hf
  have ga := hG.2.2.2 a ha
  have gb := hG.2.2.2 b hb
  have ta := timA_le (cd := cd) (r := r) (G := G) (t := pay) ga.2.1
  have tb := timA_le (cd := cd) (r := r) (G := G) (t := t) gb.2.1
  have oa := (or_n (G 4 a) (by omega) t ht).1
  by_cases h8 : pay = 8
  · obtain ⟨m1, a1, a2, a3⟩ := time_c (p := b) (t := t) hE hR hG hf hb ht
    have R1 := FrX_f hf a3 hR
    have s6a := R1.2 6 a (by decide) (by decide) ha
    have s6b := R1.2 6 b (by decide) (by decide) hb
    have s4a := R1.2 4 a (by decide) (by decide) ha
    have e1 := spend_c (m := m1) (f := f) (v := 0) ha s6a (by omega)
    have e2 := spend_c (m := pI m1 (f + 6) a (nI (min 99999 (G 6 a + 0)))) (f := f) (v := timA cd r G b t) hb (by rw [rIn (by omega)]; exact s6b) (by omega)
    unfold X2_deal X2_deal_12 X2_deal_31
    simp (disch := omega) only [leT, leF, ltT, ltF, eqT, eqF, inT, n_cl, nI_add, pk_mul, n_div, pk_sub, md8, md2, or_true, true_or, or_false, false_or, Bool.true_eq_false, Bool.false_eq_true, L0, L1, L2, L3, L4, L5, L6, L7, L8, L9, L10, L20, L31, L40, L64, L99, L100, L255, L256, L999, L1000, L99999, ↓reduceIte, a1, bi, bv, e1, e2, rIn, s4a, oa]
    refine ⟨_, rfl, CE_fo a2 (fun x j h1 h2 h3 h4 h5 => by rw [rIn (by omega), rIn (by omega), rIn (by omega)]) (fun _ _ _ _ => rfl), ⟨fun p hp => ?_, fun j p h1 h2 hp => ?_⟩, ?_⟩
    · rw [rIn (by omega), rIn (by omega), rIn (by omega), R1.1 p hp, deal_s 0 p (by decide) (by decide)]
    · rw [rI, rI, rI, R1.2 j p h1 h2 hp]
      unfold dealA
      simp only [h8, ↓reduceIte]
      by_cases c1 : j = 6 ∧ p = a
      · rw [if_neg (by omega), if_neg (by omega), if_pos (by omega), if_pos c1]
      · by_cases c2 : j = 6 ∧ p = b
        · rw [if_neg (by omega), if_pos (by omega), if_neg c1, if_pos c2]
        · by_cases c3 : j = 4 ∧ p = a
          · rw [if_pos (by omega), if_neg c1, if_neg c2, if_pos c3]
          · rw [if_neg (by omega), if_neg (by omega), if_neg (by omega), if_neg c1, if_neg c2, if_neg c3]
            by_cases c4 : j = 4 ∧ p = b
            · rw [if_pos c4, c4.1, c4.2]
            · rw [if_neg c4]
    · refine FrM_t (FrM_x a3) ⟨fun x j _ _ _ h1 h2 _ => ?_, fun _ _ _ => rfl⟩
      rw [rIn (by omega), rIn (by omega), rIn (by omega)]
  · have ob := (or_n (G 4 b) (by omega) pay (by omega)).1
    obtain ⟨m0, d1, d2, d3⟩ := time_c (p := a) (t := pay) hE hR hG hf ha (by omega)
    have R0 := FrX_f hf d3 hR
    obtain ⟨m1, a1, a2, a3⟩ := time_c (p := b) (t := t) d2 R0 hG hf hb ht
    have R1 := FrX_f hf a3 R0
    have s6a := R1.2 6 a (by decide) (by decide) ha
    have s6b := R1.2 6 b (by decide) (by decide) hb
    have s4a := R1.2 4 a (by decide) (by decide) ha
    have s4b := R1.2 4 b (by decide) (by decide) hb
    have e1 := spend_c (m := m1) (f := f) (v := timA cd r G a pay) ha s6a (by omega)
    have e2 := spend_c (m := pI m1 (f + 6) a (nI (min 99999 (G 6 a + timA cd r G a pay)))) (f := f) (v := timA cd r G b t) hb (by rw [rIn (by omega)]; exact s6b) (by omega)
    unfold X2_deal X2_deal_12 X2_deal_31
    simp (disch := omega) only [leT, leF, ltT, ltF, eqT, eqF, inT, n_cl, nI_add, pk_mul, n_div, pk_sub, md8, md2, or_true, true_or, or_false, false_or, Bool.true_eq_false, Bool.false_eq_true, L0, L1, L2, L3, L4, L5, L6, L7, L8, L9, L10, L20, L31, L40, L64, L99, L100, L255, L256, L999, L1000, L99999, ↓reduceIte, d1, a1, bi, bv, e1, e2, rIn, s4a, s4b, oa, ob]
    refine ⟨_, rfl, CE_fo a2 (fun x j h1 h2 h3 h4 h5 => by rw [rIn (by omega), rIn (by omega), rIn (by omega), rIn (by omega)]) (fun _ _ _ _ => rfl), ⟨fun p hp => ?_, fun j p h1 h2 hp => ?_⟩, ?_⟩
    · rw [rIn (by omega), rIn (by omega), rIn (by omega), rIn (by omega), R1.1 p hp, deal_s 0 p (by decide) (by decide)]
    · rw [rI, rI, rI, rI, R1.2 j p h1 h2 hp]
      unfold dealA
      simp only [h8, ↓reduceIte]
      by_cases c1 : j = 6 ∧ p = a
      · rw [if_neg (by omega), if_neg (by omega), if_neg (by omega), if_pos (by omega), if_pos c1]
      · by_cases c2 : j = 6 ∧ p = b
        · rw [if_neg (by omega), if_neg (by omega), if_pos (by omega), if_neg c1, if_pos c2]
        · by_cases c3 : j = 4 ∧ p = a
          · rw [if_neg (by omega), if_pos (by omega), if_neg c1, if_neg c2, if_pos c3]
          · by_cases c4 : j = 4 ∧ p = b
            · rw [if_pos (by omega), if_neg c1, if_neg c2, if_neg c3, if_pos c4]
            · rw [if_neg (by omega), if_neg (by omega), if_neg (by omega), if_neg (by omega), if_neg c1, if_neg c2, if_neg c3, if_neg c4]
    · refine FrM_t (FrM_x d3) (FrM_t (FrM_x a3) ⟨fun x j _ _ _ h1 h2 _ => ?_, fun _ _ _ => rfl⟩)
      rw [rIn (by omega), rIn (by omega), rIn (by omega), rIn (by omega)]
/-! the reference -/
def FrT (m m' : Mem) : Prop := (∀ x j, x ≠ 69 → ¬ (x = 63 ∧ (13 ≤ j ∧ j ≤ 27 ∨ j = 7)) → m'.1 x j = m.1 x j) ∧ ∀ x j, ¬ (x = 63 ∧ j = 24) → m'.2 x j = m.2 x j
theorem FrT_r (m : Mem) : FrT m m := ⟨fun _ _ _ _ => rfl, fun _ _ _ => rfl⟩
theorem FrT_t {a b d : Mem} (h : FrT a b) (g : FrT b d) : FrT a d := ⟨fun x j p q => (g.1 x j p q).trans (h.1 x j p q), fun x j p => (g.2 x j p).trans (h.2 x j p)⟩
theorem FrT_a {m m' : Mem} (h : FrA m m') : FrT m m' := ⟨fun x j p q => h.1 x j (by omega), h.2⟩
theorem FrT_re {m m' : Mem} (h : FrT m m') (g : RE cd r nt m) : RE cd r nt m' := RE_f (fun x j q => h.1 x j (by omega) (by omega)) g
/-- rows changed in 69 -/
theorem RR_69 {m' : Mem} {G' : Nat → Nat → Nat} (hR : RR m G) (hs : Sm G G') (h1 : ∀ x j, x ≠ 69 → m'.1 x j = m.1 x j) (h2 : ∀ p, p < 6 → m'.1 69 (5 * p) = m.1 69 (5 * p) ∧ m'.1 69 (5 * p + 1) = m.1 69 (5 * p + 1) ∧ m'.1 69 (5 * p + 2) = nI (G' 4 p) ∧ m'.1 69 (5 * p + 3) = m.1 69 (5 * p + 3) ∧ m'.1 69 (5 * p + 4) = nI (G' 6 p)) : RR m' G' := by
  obtain ⟨g1, g2, g3, g4, g5⟩ := hR
  refine ⟨by rw [h1 _ _ (by decide), hs 0 0 (by decide) (by decide)]; exact g1, by rw [h1 _ _ (by decide), hs 0 1 (by decide) (by decide)]; exact g2, by rw [h1 _ _ (by decide), hs 0 2 (by decide) (by decide)]; exact g3, fun p hp => ?_, fun p hp => ?_⟩
  · obtain ⟨a1, a2, a3, a4, a5⟩ := h2 p hp
    obtain ⟨b1, b2, b3, b4, b5⟩ := g4 p hp
    exact ⟨by rw [a1, hs 2 p (by decide) (by decide)]; exact b1, by rw [a2, hs 3 p (by decide) (by decide)]; exact b2, a3, by rw [a4, hs 5 p (by decide) (by decide)]; exact b4, a5⟩
  · rw [hs 0 0 (by decide) (by decide)] at hp
    rw [h1 _ _ (by decide), hs 1 p (by decide) (by decide)]; exact g5 p hp
theorem deal_r (hE : RE cd r nt m) (hR : RR m G) (hG : GO nt R G) (ha : a < G 0 0) (hb : b < G 0 0) (hab : a ≠ b) (ht : t < 8) (hy : pay ≤ 8) : ∃ m', X10_trades (nI a) (nI b) (nI t) (nI pay) m = some m' ∧ RR m' (dealA cd r G a b t pay) ∧ FrT m m' := by
  have g0 := hG.1
  have ga := hG.2.2.2 a (by omega)
  have gb := hG.2.2.2 b (by omega)
  have ta := timA_le (cd := cd) (r := r) (G := G) (t := pay) ga.2.1
  have tb := timA_le (cd := cd) (r := r) (G := G) (t := t) gb.2.1
  have oa := (or_n (G 4 a) (by omega) t ht).1
  obtain ⟨m0, d1, d3⟩ := time_r (p := b) (t := t) hE hR hG hb ht
  have R0 := FrA_rr d3 hR
  have E0 := FrA_re d3 hE
  by_cases h8 : pay = 8
  · have s6a := (R0.2.2.2.1 a (by omega)).2.2.2.2
    have s6b := (R0.2.2.2.1 b (by omega)).2.2.2.2
    have s4a := (R0.2.2.2.1 a (by omega)).2.2.1
    have s4b := (R0.2.2.2.1 b (by omega)).2.2.1
    have e1 := spend_r (m := m0) (v := timA cd r G b t) (by omega) s6b (by omega)
    have e2 := spend_r (m := pI m0 69 (5 * b + 4) (nI (min 99999 (G 6 b + timA cd r G b t)))) (p := a) (v := 0) (by omega) (by rw [rIn (by omega)]; exact s6a) (by omega)
    unfold X10_trades X10_trades_26
    have o0 : nI (G 4 b) ||| nI 0 = nI (G 4 b) := Int32.or_zero
    simp (disch := omega) only [leT, leF, ltT, ltF, eqT, eqF, inT, n_cl, nI_add, pk_mul, n_div, pk_sub, md8, md2, or_true, true_or, or_false, false_or, Bool.true_eq_false, Bool.false_eq_true, L0, L1, L2, L3, L4, L5, L6, L7, L8, L9, L10, L20, L31, L40, L64, L99, L100, L255, L256, L999, L1000, L99999, ↓reduceIte, d1, bi, bv, e1, e2, rIn, s4a, s4b, oa, o0]
    refine ⟨_, rfl, RR_69 R0 deal_s (fun x j h => by rw [rIn (by omega), rIn (by omega), rIn (by omega), rIn (by omega)]) (fun p hp => ?_), ?_⟩
    · refine ⟨by rw [rIn (by omega), rIn (by omega), rIn (by omega), rIn (by omega)], by rw [rIn (by omega), rIn (by omega), rIn (by omega), rIn (by omega)], ?_, by rw [rIn (by omega), rIn (by omega), rIn (by omega), rIn (by omega)], ?_⟩
      · unfold dealA
        rw [if_neg (by omega), if_neg (by omega)]
        simp only [h8, ↓reduceIte]
        by_cases c : p = a
        · subst c; rw [rIn (by omega), rIs, if_pos ⟨trivial, rfl⟩]
        · rw [if_neg (by omega)]
          by_cases c2 : p = b
          · subst c2; rw [rIs, if_pos ⟨trivial, rfl⟩]
          · rw [rIn (by omega), rIn (by omega), rIn (by omega), rIn (by omega), if_neg (by omega)]; exact (R0.2.2.2.1 p hp).2.2.1
      · unfold dealA
        simp only [h8, ↓reduceIte]
        by_cases c : p = a
        · subst c; rw [rIn (by omega), rIn (by omega), rIs, if_pos ⟨trivial, rfl⟩]
        · rw [if_neg (by omega)]
          by_cases c2 : p = b
          · subst c2; rw [rIn (by omega), rIn (by omega), rIn (by omega), rIs, if_pos ⟨trivial, rfl⟩]
          · rw [rIn (by omega), rIn (by omega), rIn (by omega), rIn (by omega), if_neg (by omega), if_neg (by omega), if_neg (by omega)]; exact (R0.2.2.2.1 p hp).2.2.2.2
    · exact FrT_t (FrT_a d3) ⟨fun x j h1 _ => by rw [rIn (by omega), rIn (by omega), rIn (by omega), rIn (by omega)], fun _ _ _ => rfl⟩
  · obtain ⟨m1, a1, a3⟩ := time_r (p := a) (t := pay) E0 R0 hG ha (by omega)
    have R1 := FrA_rr a3 R0
    have ob := (or_n (G 4 b) (by omega) pay (by omega)).1
    have s6a := (R1.2.2.2.1 a (by omega)).2.2.2.2
    have s6b := (R1.2.2.2.1 b (by omega)).2.2.2.2
    have s4a := (R1.2.2.2.1 a (by omega)).2.2.1
    have s4b := (R1.2.2.2.1 b (by omega)).2.2.1
    have e1 := spend_r (m := m1) (v := timA cd r G b t) (by omega) s6b (by omega)
    have e2 := spend_r (m := pI m1 69 (5 * b + 4) (nI (min 99999 (G 6 b + timA cd r G b t)))) (p := a) (v := timA cd r G a pay) (by omega) (by rw [rIn (by omega)]; exact s6a) (by omega)
    unfold X10_trades X10_trades_26
    simp (disch := omega) only [leT, leF, ltT, ltF, eqT, eqF, inT, n_cl, nI_add, pk_mul, n_div, pk_sub, md8, md2, or_true, true_or, or_false, false_or, Bool.true_eq_false, Bool.false_eq_true, L0, L1, L2, L3, L4, L5, L6, L7, L8, L9, L10, L20, L31, L40, L64, L99, L100, L255, L256, L999, L1000, L99999, ↓reduceIte, d1, a1, bi, bv, e1, e2, rIn, s4a, s4b, oa, ob]
    refine ⟨_, rfl, RR_69 R1 deal_s (fun x j h => by rw [rIn (by omega), rIn (by omega), rIn (by omega), rIn (by omega)]) (fun p hp => ?_), ?_⟩
    · refine ⟨by rw [rIn (by omega), rIn (by omega), rIn (by omega), rIn (by omega)], by rw [rIn (by omega), rIn (by omega), rIn (by omega), rIn (by omega)], ?_, by rw [rIn (by omega), rIn (by omega), rIn (by omega), rIn (by omega)], ?_⟩
      · unfold dealA
        rw [if_neg (by omega), if_neg (by omega)]
        simp only [h8, ↓reduceIte]
        by_cases c : p = a
        · subst c; rw [rIn (by omega), rIs, if_pos ⟨trivial, rfl⟩]
        · rw [if_neg (by omega)]
          by_cases c2 : p = b
          · subst c2; rw [rIs, if_pos ⟨trivial, rfl⟩]
          · rw [rIn (by omega), rIn (by omega), rIn (by omega), rIn (by omega), if_neg (by omega)]; exact (R1.2.2.2.1 p hp).2.2.1
      · unfold dealA
        simp only [h8, ↓reduceIte]
        by_cases c : p = a
        · subst c; rw [rIn (by omega), rIn (by omega), rIs, if_pos ⟨trivial, rfl⟩]
        · rw [if_neg (by omega)]
          by_cases c2 : p = b
          · subst c2; rw [rIn (by omega), rIn (by omega), rIn (by omega), rIs, if_pos ⟨trivial, rfl⟩]
          · rw [rIn (by omega), rIn (by omega), rIn (by omega), rIn (by omega), if_neg (by omega), if_neg (by omega), if_neg (by omega)]; exact (R1.2.2.2.1 p hp).2.2.2.2
    · exact FrT_t (FrT_a d3) (FrT_t (FrT_a a3) ⟨fun x j h1 _ => by rw [rIn (by omega), rIn (by omega), rIn (by omega), rIn (by omega)], fun _ _ _ => rfl⟩)
end
