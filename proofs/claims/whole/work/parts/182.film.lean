/-! calls: film, people -/
theorem sh16 : ∀ w, w < 1000 → (nI w).toInt16.toInt32 = nI w := by decide +kernel
theorem sheet_r {s so sz : Nat} {m : Mem} (hs : s < 4) (ho : so < 3) (hz : sz ≤ 40) : ∃ m', X10_sheet (nI s) (nI so) (nI sz) m = some (nI 1, m') ∧ (∀ x j, m'.1 x j = if x = 78 ∧ 40 * s + 0 ≤ j ∧ j < 40 * s + sz then nI 0 else (pI (pI (pI m 75 s (nI 1)) 76 s (nI so)) 77 s (nI sz)).1 x j) ∧ m'.2 = m.2 := by
  obtain ⟨n1, n2, n3, n4⟩ := so_n so ho
  obtain ⟨m2, c0, c1, c2⟩ := shl_r hs ho hz 10000 0 (pI (pI (pI m 75 s (nI 1)) 76 s (nI so)) 77 s (nI sz)) (Nat.zero_le _) (by omega)
  refine ⟨m2, ?_, c1, c2⟩
  unfold X10_sheet X10_sheet_34 X10_sheet_45 X10_sheet_59
  simp (disch := omega) only [leT, leF, ltT, ltF, eqT, eqF, inT, n_cl, nI_add, pk_mul, n_div, pk_sub, md8, md2, or_true, true_or, or_false, false_or, Bool.true_eq_false, Bool.false_eq_true, L0, L1, L2, L3, L4, L5, L6, L7, L8, L9, L10, L20, L31, L40, L64, L99, L100, L255, L256, L999, L1000, L99999, ↓reduceIte, L11, L12, L13, L14, L15, L16, L30, L48, L160, K1, K2, K3, K4, K5, K7, K8, K9, K15, K17, K20, K27, K37, K48, K99, K255, inR, isPlace_r, isPlace_c, isSheet_r, bi, inM, n2, c0]
def fmS (cd : Nat → Cd) (r : Nat → Nat) (G : Fo) (p : Nat) : Nat → Nat
  | 0 => 0
  | t + 1 => fmS cd r G p t + worA cd r G p t
section
variable {nt ve R p s : Nat} {z : Nat → Nat} {cd : Nat → Cd} {r : Nat → Nat} {G : Fo}
theorem fm_c (hG : GO nt 1019 G) (hp : p < 6) (hs : s < 4) : ∀ n t m, t ≤ 8 → 8 - t < n → CE cd r nt z ve m → RF 5 m G → m.1 (55 + 2 * s) 0 = nI 1 → (∀ u, u < t → m.1 (55 + 2 * s + 1) u = nI (worA cd r G p u)) → ∃ m', X9_film_34 nt z n (nI p) (55 + 2 * s) (nI (fmS cd r G p t)) (nI t) m = some (nI (fmS cd r G p 8), m') ∧ CE cd r nt z ve m' ∧ RF 5 m' G ∧ (∀ u, u < 8 → m'.1 (55 + 2 * s + 1) u = nI (worA cd r G p u)) ∧ (∀ x j, ¬ (x = 1 ∧ j = 3) → x ≠ 3 → ¬ (36 ≤ x ∧ x ≤ 49) → x ≠ 55 + 2 * s + 1 → m'.1 x j = m.1 x j) ∧ (∀ x j, ¬ (38 ≤ x ∧ x ≤ 49) → m'.2 x j = m.2 x j) := by
  intro n
  induction n with
  | zero => intro t m _ h; omega
  | succ n ih =>
    intro t m ht hn hE hR h0 hi
    rw [X9_film_34]
    by_cases h8 : t = 8
    · subst h8
      simp (disch := omega) only [leT, leF, ltT, ltF, eqT, eqF, inT, n_cl, nI_add, pk_mul, n_div, pk_sub, md8, md2, or_true, true_or, or_false, false_or, Bool.true_eq_false, Bool.false_eq_true, L0, L1, L2, L3, L4, L5, L6, L7, L8, L9, L10, L20, L31, L40, L64, L99, L100, L255, L256, L999, L1000, L99999, ↓reduceIte]
      exact ⟨m, rfl, hE, hR, hi, fun _ _ _ _ _ _ => rfl, fun _ _ _ => rfl⟩
    · obtain ⟨m1, a1, a2, a3⟩ := worth_c (p := p) (t := t) hE hR hG fo5 hp (by omega)
      have hw := worA_le (cd := cd) (r := r) (t := t) (hG.2.2.2 p hp).2.1
      have h0' : m1.1 (55 + 2 * s) 0 = nI 1 := by rw [a3.1 _ _ (by omega) (by omega) (by omega)]; exact h0
      have pt := put_c (so := 1) (k := t) (v := nI (worA cd r G p t)) (by decide) (by omega) h0'
      rw [show nrw 1 (nI (worA cd r G p t)) = nI (worA cd r G p t) from sh16 _ (by omega)] at pt
      obtain ⟨m2, b1, b2, b3, b4, b5, b6⟩ := ih (t + 1) (pI m1 (55 + 2 * s + 1) t (nI (worA cd r G p t))) (by omega) (by omega) (CE_g a2 (fun x j h => by rw [rIn (by omega)]) (fun _ _ _ _ => rfl)) (RF_g (fun x j h1 h2 => by rw [rIn (by omega)]) (FrX_f fo5 a3 hR)) (by rw [rIn (by omega)]; exact h0') (fun u hu => by
        by_cases q : u = t
        · subst q; rw [rIs]
        · rw [rIn (by omega), a3.1 _ _ (by omega) (by omega) (by omega)]; exact hi u (by omega))
      simp (disch := omega) only [leT, leF, ltT, ltF, eqT, eqF, inT, n_cl, nI_add, pk_mul, n_div, pk_sub, md8, md2, or_true, true_or, or_false, false_or, Bool.true_eq_false, Bool.false_eq_true, L0, L1, L2, L3, L4, L5, L6, L7, L8, L9, L10, L20, L31, L40, L64, L99, L100, L255, L256, L999, L1000, L99999, ↓reduceIte, a1, bi, pt, bv]
      refine ⟨m2, b1, b2, b3, b4, fun x j h1 h2 h3 h4 => ?_, fun x j h => ?_⟩
      · rw [b5 x j h1 h2 h3 h4, rIn (by omega), a3.1 x j h1 h2 h3]
      · rw [b6 x j h, rI2, a3.2 x j h]
theorem fm_r (hG : GO nt R G) (hp : p < G 0 0) (hs : s < 4) : ∀ n t m, t ≤ 8 → 8 - t < n → RE cd r nt m → RR m G → (∀ u, u < t → m.1 78 (40 * s + u) = nI (worA cd r G p u)) → ∃ m', X10_film_32 n (nI s) (nI p) (nI (fmS cd r G p t)) (nI t) m = some (nI (fmS cd r G p 8), m') ∧ (∀ u, u < 8 → m'.1 78 (40 * s + u) = nI (worA cd r G p u)) ∧ (∀ x j, ¬ (x = 63 ∧ 13 ≤ j ∧ j ≤ 27) → ¬ (x = 78 ∧ 40 * s ≤ j ∧ j < 40 * s + 8) → m'.1 x j = m.1 x j) ∧ (∀ x j, ¬ (x = 63 ∧ j = 24) → m'.2 x j = m.2 x j) := by
  intro n
  induction n with
  | zero => intro t m _ h; omega
  | succ n ih =>
    intro t m ht hn hE hR hi
    rw [X10_film_32]
    by_cases h8 : t = 8
    · subst h8
      simp (disch := omega) only [leT, leF, ltT, ltF, eqT, eqF, inT, n_cl, nI_add, pk_mul, n_div, pk_sub, md8, md2, or_true, true_or, or_false, false_or, Bool.true_eq_false, Bool.false_eq_true, L0, L1, L2, L3, L4, L5, L6, L7, L8, L9, L10, L20, L31, L40, L64, L99, L100, L255, L256, L999, L1000, L99999, ↓reduceIte, L11, L12, L13, L14, L15, L16, L30, L48, L160, K1, K2, K3, K4, K5, K7, K8, K9, K15, K17, K20, K27, K37, K48, K99, K255, inR, isPlace_r, isPlace_c, isSheet_r]
      exact ⟨m, rfl, hi, fun _ _ _ _ => rfl, fun _ _ _ => rfl⟩
    · obtain ⟨m1, a1, a3⟩ := worth_r (p := p) (t := t) hE hR hG hp (by omega)
      have hw := worA_le (cd := cd) (r := r) (t := t) (hG.2.2.2 p (by have := hG.1; omega)).2.1
      obtain ⟨m2, b1, b4, b5, b6⟩ := ih (t + 1) (pI m1 78 (40 * s + t) (nI (worA cd r G p t))) (by omega) (by omega) (RE_f (fun x j h => by rw [rIn (by omega)]) (FrA_re a3 hE)) (RR_f (fun x j h => by rw [rIn (by omega)]) (FrA_rr a3 hR)) (fun u hu => by
        by_cases q : u = t
        · subst q; rw [rIs]
        · rw [rIn (by omega), a3.1 _ _ (by omega)]; exact hi u (by omega))
      simp (disch := omega) only [leT, leF, ltT, ltF, eqT, eqF, inT, n_cl, nI_add, pk_mul, n_div, pk_sub, md8, md2, or_true, true_or, or_false, false_or, Bool.true_eq_false, Bool.false_eq_true, L0, L1, L2, L3, L4, L5, L6, L7, L8, L9, L10, L20, L31, L40, L64, L99, L100, L255, L256, L999, L1000, L99999, ↓reduceIte, L11, L12, L13, L14, L15, L16, L30, L48, L160, K1, K2, K3, K4, K5, K7, K8, K9, K15, K17, K20, K27, K37, K48, K99, K255, inR, isPlace_r, isPlace_c, isSheet_r, a1, bi, rIs]
      refine ⟨m2, b1, b4, fun x j h1 h2 => ?_, fun x j h => ?_⟩
      · rw [b5 x j h1 h2, rIn (by omega), a3.1 x j h1]
      · rw [b6 x j h, rI2, a3.2 x j h]
end
theorem o_film : ob_film Iv := by
  rintro c nt z m a1 a2 hc ⟨cd, r, rk, G, H, tp, n, ve, hv, hE, hW⟩
  have bad : Iv (c + 1) nt z m := Iv_0 hv hE hW
  have hW0 := hW
  obtain ⟨w1, w2, w3, w4, w5, w6, w7, w8⟩ := hW
  have g0 := w4.1
  have w4' : GO nt 1019 G := GO_up (by decide) w4
  have pc := fun x => isPerson_c g0 x m (w2.1 0 (by decide))
  have pr := fun x => isOne_r g0 x m w3.1
  unfold X9_film X10_film
  rcases dich a1 4 (by decide) with ⟨s, hs, rfl⟩ | d
  · have so1 := fun m' => shOf_c hs m'
    rcases dich a2 (G 0 0) (by omega) with ⟨p, hp, rfl⟩ | d
    · obtain ⟨mb, b0, b1, b2, b3, b4, b5⟩ := sbec_c (55 + 2 * s) (nI 1) (nI 8) m
      obtain ⟨m1, c1, c2, c3, c4, c5, c6⟩ := fm_c (cd := cd) (r := r) (z := z) (ve := ve) (p := p) w4' (by omega) hs 10000 0 mb (by decide) (by decide) (CE_g hE (fun x j h => b4 x j (by omega)) (fun x j _ _ => by rw [b5])) (RF_g (fun x j h1 h2 => b4 x j (by omega)) w2) b1 (fun u hu => by omega)
      have F1 : ∀ x j, ¬ (x = 1 ∧ j = 3) → x ≠ 3 → ¬ (36 ≤ x ∧ x ≤ 49) → ¬ (55 + 2 * s ≤ x ∧ x ≤ 55 + 2 * s + 1) → m1.1 x j = m.1 x j := fun x j h1 h2 h3 h4 => by rw [c5 x j h1 h2 h3 (by omega), b4 x j h4]
      obtain ⟨m2, d1, d2, d3⟩ := sheet_r (s := s) (so := 1) (sz := 8) (m := m1) hs (by decide) (by decide)
      have F2 : ∀ x j, ¬ (75 ≤ x ∧ x ≤ 78) → m2.1 x j = m1.1 x j := fun x j h => by rw [d2, if_neg (by omega), rIn (by omega), rIn (by omega), rIn (by omega)]
      have F12 : ∀ x j, ¬ (75 ≤ x ∧ x ≤ 78) → ¬ (x = 1 ∧ j = 3) → x ≠ 3 → ¬ (36 ≤ x ∧ x ≤ 49) → ¬ (55 + 2 * s ≤ x ∧ x ≤ 55 + 2 * s + 1) → m2.1 x j = m.1 x j := fun x j h0 h1 h2 h3 h4 => by rw [F2 x j h0, F1 x j h1 h2 h3 h4]
      obtain ⟨m3, e1, e2, e3, e4⟩ := fm_r (cd := cd) (r := r) (p := p) w4 hp hs 10000 0 m2 (by decide) (by decide) (RE_f (fun x j h => F12 x j (by omega) (by omega) (by omega) (by omega) (by omega)) w1) (RR_f (fun x j h => F12 x j (by omega) (by omega) (by omega) (by omega) (by omega)) w3) (fun u hu => by omega)
      have pr1 := fun x => isOne_r g0 x m1 (show m1.1 63 11 = nI (G 0 0) by rw [F1 _ _ (by omega) (by omega) (by omega) (by omega)]; exact w3.1)
      have F3 : ∀ x j, ¬ (75 ≤ x ∧ x ≤ 78) → ¬ (x = 1 ∧ j = 3) → x ≠ 3 → ¬ (36 ≤ x ∧ x ≤ 49) → ¬ (55 + 2 * s ≤ x ∧ x ≤ 55 + 2 * s + 1) → ¬ (x = 63 ∧ 13 ≤ j ∧ j ≤ 27) → m3.1 x j = m.1 x j := fun x j h0 h1 h2 h3 h4 h5 => by rw [e3 x j h5 (by omega), F12 x j h0 h1 h2 h3 h4]
      have F4 : ∀ x j, ¬ (63 ≤ x ∧ x ≤ 78) → m3.1 x j = m1.1 x j := fun x j h => by rw [e3 x j (by omega) (by omega), F2 x j (by omega)]
      refine ⟨nI (fmS cd r G p 8), m1, m3, ?_, ?_, cd, r, rk, G, H, tp, n, ve, by omega, CE_g c2 (fun x j h => F4 x j (by omega)) (fun x j h1 h2 => by rw [e4 x j (by omega), d3]), RE_f (fun x j h => F3 x j (by omega) (by omega) (by omega) (by omega) (by omega) (by omega)) w1, RF_g (fun x j h1 h2 => F3 x j (by omega) (by omega) (by omega) (by omega) (by omega) (by omega)) w2, RR_f (fun x j h => F3 x j (by omega) (by omega) (by omega) (by omega) (by omega) (by omega)) w3, w4, KP_g (fun x j h => F3 x j (by omega) (by omega) (by omega) (by omega) (by omega) (by omega)) w5, TPE_g (fun x j h => F3 x j (by omega) (by omega) (by omega) (by omega) (by omega) (by omega)) w6, NTE_g (fun x j h => F3 x j (by omega) (by omega) (by omega) (by omega) (by omega) (by omega)) w7, fun i hi => ?_⟩
      · simp (disch := omega) only [leT, leF, ltT, ltF, eqT, eqF, inT, n_cl, nI_add, pk_mul, n_div, pk_sub, md8, md2, or_true, true_or, or_false, false_or, Bool.true_eq_false, Bool.false_eq_true, L0, L1, L2, L3, L4, L5, L6, L7, L8, L9, L10, L20, L31, L40, L64, L99, L100, L255, L256, L999, L1000, L99999, ↓reduceIte, L11, L12, L13, L14, L15, L16, L30, L48, L160, K1, K2, K3, K4, K5, K7, K8, K9, K15, K17, K20, K27, K37, K48, K99, K255, inR, isPlace_r, isPlace_c, isSheet_r, so1, bq, oq, bi, bv, pc, b0]
        exact c1
      · simp (disch := omega) only [leT, leF, ltT, ltF, eqT, eqF, inT, n_cl, nI_add, pk_mul, n_div, pk_sub, md8, md2, or_true, true_or, or_false, false_or, Bool.true_eq_false, Bool.false_eq_true, L0, L1, L2, L3, L4, L5, L6, L7, L8, L9, L10, L20, L31, L40, L64, L99, L100, L255, L256, L999, L1000, L99999, ↓reduceIte, L11, L12, L13, L14, L15, L16, L30, L48, L160, K1, K2, K3, K4, K5, K7, K8, K9, K15, K17, K20, K27, K37, K48, K99, K255, inR, isPlace_r, isPlace_c, isSheet_r, bi, pr1, d1]
        exact e1
      · by_cases q : i = s
        · subst q
          refine .inr ⟨1, 8, by decide, by decide, ?_, ?_, ?_, ?_, ?_, fun k hk => ?_⟩
          · rw [F4 _ _ (by omega), c5 _ _ (by omega) (by omega) (by omega) (by omega)]; exact b1
          · rw [F4 _ _ (by omega), c5 _ _ (by omega) (by omega) (by omega) (by omega)]; exact b2
          · rw [e3 _ _ (by omega) (by omega), d2, if_neg (by omega), rIn (by omega), rIn (by omega), rIs]
          · rw [e3 _ _ (by omega) (by omega), d2, if_neg (by omega), rIn (by omega), rIs]
          · rw [e3 _ _ (by omega) (by omega), d2, if_neg (by omega), rIs]
          · rw [e2 k hk, F4 _ _ (by omega), show 56 + 2 * i = 55 + 2 * i + 1 by omega]; exact c4 k hk
        · refine SHE_s (fun x j h => ?_) (w8 i hi)
          rw [e3 x j (by omega) (by omega), d2, if_neg (by omega), rIn (by omega), rIn (by omega), rIn (by omega), F1 x j (by omega) (by omega) (by omega) (by omega)]
    · refine ⟨-nI 2, m, m, ?_, ?_, bad⟩
      · simp (disch := omega) only [leT, leF, ltT, ltF, eqT, eqF, inT, n_cl, nI_add, pk_mul, n_div, pk_sub, md8, md2, or_true, true_or, or_false, false_or, Bool.true_eq_false, Bool.false_eq_true, L0, L1, L2, L3, L4, L5, L6, L7, L8, L9, L10, L20, L31, L40, L64, L99, L100, L255, L256, L999, L1000, L99999, ↓reduceIte, L11, L12, L13, L14, L15, L16, L30, L48, L160, K1, K2, K3, K4, K5, K7, K8, K9, K15, K17, K20, K27, K37, K48, K99, K255, inR, isPlace_r, isPlace_c, isSheet_r, so1, bq, oq, bi, pc, d.1]
      · simp (disch := omega) only [leT, leF, ltT, ltF, eqT, eqF, inT, n_cl, nI_add, pk_mul, n_div, pk_sub, md8, md2, or_true, true_or, or_false, false_or, Bool.true_eq_false, Bool.false_eq_true, L0, L1, L2, L3, L4, L5, L6, L7, L8, L9, L10, L20, L31, L40, L64, L99, L100, L255, L256, L999, L1000, L99999, ↓reduceIte, L11, L12, L13, L14, L15, L16, L30, L48, L160, K1, K2, K3, K4, K5, K7, K8, K9, K15, K17, K20, K27, K37, K48, K99, K255, inR, isPlace_r, isPlace_c, isSheet_r, bi, pr, d.1]
  · refine ⟨-nI 2, m, m, ?_, ?_, bad⟩
    · simp (disch := omega) only [leT, leF, ltT, ltF, eqT, eqF, inT, n_cl, nI_add, pk_mul, n_div, pk_sub, md8, md2, or_true, true_or, or_false, false_or, Bool.true_eq_false, Bool.false_eq_true, L0, L1, L2, L3, L4, L5, L6, L7, L8, L9, L10, L20, L31, L40, L64, L99, L100, L255, L256, L999, L1000, L99999, ↓reduceIte, L11, L12, L13, L14, L15, L16, L30, L48, L160, K1, K2, K3, K4, K5, K7, K8, K9, K15, K17, K20, K27, K37, K48, K99, K255, inR, isPlace_r, isPlace_c, isSheet_r, shOf_n d, bq, oq]
    · simp (disch := omega) only [leT, leF, ltT, ltF, eqT, eqF, inT, n_cl, nI_add, pk_mul, n_div, pk_sub, md8, md2, or_true, true_or, or_false, false_or, Bool.true_eq_false, Bool.false_eq_true, L0, L1, L2, L3, L4, L5, L6, L7, L8, L9, L10, L20, L31, L40, L64, L99, L100, L255, L256, L999, L1000, L99999, ↓reduceIte, L11, L12, L13, L14, L15, L16, L30, L48, L160, K1, K2, K3, K4, K5, K7, K8, K9, K15, K17, K20, K27, K37, K48, K99, K255, inR, isPlace_r, isPlace_c, isSheet_r, bi, d.1]
