/-! calls: sheet, cell -/
theorem ge_out {x : Int32} {n : Nat} (hn : n < 2147483648) (h : (x < nI n) = False) : (nI n ≤ x) = True := eq_true (by
  have h1 : ¬ x < nI n := by rw [h]; exact fun q => q
  have h2 := Int32.lt_iff_toInt_lt (x := x) (y := nI n)
  rw [nI_toInt hn] at h2
  have h3 : ¬ x.toInt < n := fun q => h1 (h2.mpr q)
  apply Int32.le_iff_toInt_le.mpr
  rw [nI_toInt hn]
  omega)
theorem ng_le {x : Int32} {k : Nat} (hk : k < 2147483648) (h : (x < nI 0) = True) : (x ≤ nI k) = True := eq_true (by
  have h1 : x < nI 0 := by rw [h]; trivial
  have h2 := Int32.lt_iff_toInt_lt.mp h1
  rw [show (nI 0).toInt = 0 from rfl] at h2
  apply Int32.le_iff_toInt_le.mpr
  rw [nI_toInt hk]
  omega)
theorem ng_ge {x : Int32} (h : (x < nI 0) = True) : (nI 0 ≤ x) = False := eq_false (by
  intro q
  have h1 : x < nI 0 := by rw [h]; trivial
  have h2 := Int32.lt_iff_toInt_lt.mp h1
  have h3 := Int32.le_iff_toInt_le.mp q
  omega)
theorem shOf_c {s : Nat} (hs : s < 4) (m : Mem) : X9_sheetOf (nI s) m = some (some (55 + 2 * s), m) := by
  unfold X9_sheetOf
  simp (disch := omega) only [leT, leF, ltT, ltF, eqT, eqF, inT, n_cl, nI_add, pk_mul, n_div, pk_sub, md8, md2, or_true, true_or, or_false, false_or, Bool.true_eq_false, Bool.false_eq_true, L0, L1, L2, L3, L4, L5, L6, L7, L8, L9, L10, L20, L31, L40, L64, L99, L100, L255, L256, L999, L1000, L99999, ↓reduceIte, wi]
theorem shOf_n {x : Int32} (d : OutR x 4) (m : Mem) : X9_sheetOf x m = some (none, m) := by
  unfold X9_sheetOf
  rcases d with ⟨d0, d1 | ⟨d1, d2, d3, d4⟩⟩
  · simp (disch := omega) only [leT, leF, ltT, ltF, eqT, eqF, inT, n_cl, nI_add, pk_mul, n_div, pk_sub, md8, md2, or_true, true_or, or_false, false_or, Bool.true_eq_false, Bool.false_eq_true, L0, L1, L2, L3, L4, L5, L6, L7, L8, L9, L10, L20, L31, L40, L64, L99, L100, L255, L256, L999, L1000, L99999, ↓reduceIte, d1]
  · simp (disch := omega) only [leT, leF, ltT, ltF, eqT, eqF, inT, n_cl, nI_add, pk_mul, n_div, pk_sub, md8, md2, or_true, true_or, or_false, false_or, Bool.true_eq_false, Bool.false_eq_true, L0, L1, L2, L3, L4, L5, L6, L7, L8, L9, L10, L20, L31, L40, L64, L99, L100, L255, L256, L999, L1000, L99999, ↓reduceIte, d1, ge_out (by decide) d3]
theorem inM (x : Int32) (m : Mem) : X10_in x.toInt64 (-lN 1) (lN 2) m = some (if x = -nI 1 ∨ inn x 3 then nI 1 else nI 0, m) := by
  rw [in_s]
  congr 2
  have e1 : (x.toInt64).toInt = x.toInt := Int32.toInt_toInt64 x
  have e2 : (-lN 1 : Int64).toInt = -1 := rfl
  have e3 : (lN 2).toInt = 2 := rfl
  have e4 : x = -nI 1 ↔ x.toInt = -1 := by
    rw [← Int32.toInt_inj]; exact Iff.rfl
  rw [e1, e2, e3]
  by_cases h : x = -nI 1 ∨ inn x 3
  · rw [if_pos h, if_pos]; rfl
    rcases h with h | h
    · have := e4.mp h; omega
    · have := inn_i.mp h; omega
  · rw [if_neg h, if_neg]; rfl
    intro q
    apply h
    by_cases y : x.toInt = -1
    · exact .inl (e4.mpr y)
    · right; rw [inn_i]; omega
theorem dich3 (x : Int32) : (∃ so, so < 3 ∧ x = nI so) ∨ x = -nI 1 ∨ ((x = -nI 1) = False ∧ inn x 3 = False ∧ ((x < -nI 1) = True ∨ ((x < -nI 1) = False ∧ (x ≤ nI 2) = False))) := by
  rcases dich x 3 (by decide) with h | ⟨d0, d1 | ⟨d1, d2, d3, d4⟩⟩
  · exact .inl h
  · right
    by_cases y : x = -nI 1
    · exact .inl y
    · right
      refine ⟨eq_false y, d0, .inl (eq_true ?_)⟩
      have h1 : x < nI 0 := by rw [d1]; trivial
      have h2 := Int32.lt_iff_toInt_lt.mp h1
      rw [show (nI 0).toInt = 0 from rfl] at h2
      have h3 : x.toInt ≠ -1 := fun q => y (Int32.toInt_inj.mp q)
      apply Int32.lt_iff_toInt_lt.mpr
      rw [show (-nI 1 : Int32).toInt = -1 from rfl]
      omega
  · right; right
    have h1 : ¬ x < nI 0 := by rw [d1]; exact fun q => q
    have h2 : ¬ x.toInt < 0 := fun q => h1 (Int32.lt_iff_toInt_lt.mpr q)
    refine ⟨eq_false (fun y => ?_), d0, .inr ⟨eq_false (fun y => ?_), d4 2 (by decide)⟩⟩
    · rw [y] at h2; exact h2 (by decide)
    · have := Int32.lt_iff_toInt_lt.mp y
      rw [show (-nI 1 : Int32).toInt = -1 from rfl] at this
      omega
theorem so_n : ∀ so, so < 3 → (nI so < -nI 1) = False ∧ (nI so = -nI 1) = False ∧ (nI so ≤ nI 2) = True ∧ (nI so < nI 0) = False := by
  intro so hs
  rcases (show so = 0 ∨ so = 1 ∨ so = 2 by omega) with rfl | rfl | rfl <;> exact ⟨eq_false (by decide), eq_false (by decide), eq_true (by decide), eq_false (by decide)⟩
theorem fill_c (s : Nat) (v : Int32) : ∀ n k m, k ≤ 40 → 40 - k < n → ∃ m', J7_fill_53178_5 s n v (nI k) (nI 40) m = some m' ∧ (∀ x j, m'.1 x j = if x = s + 1 ∧ k ≤ j ∧ j < 40 then v else m.1 x j) ∧ m'.2 = m.2 := by
  intro n
  induction n with
  | zero => intro k m _ h; omega
  | succ n ih =>
    intro k m hk hn
    rw [J7_fill_53178_5]
    by_cases h : k = 40
    · subst h
      simp (disch := omega) only [leT, leF, ltT, ltF, eqT, eqF, inT, n_cl, nI_add, pk_mul, n_div, pk_sub, md8, md2, or_true, true_or, or_false, false_or, Bool.true_eq_false, Bool.false_eq_true, L0, L1, L2, L3, L4, L5, L6, L7, L8, L9, L10, L20, L31, L40, L64, L99, L100, L255, L256, L999, L1000, L99999, ↓reduceIte]
      exact ⟨m, rfl, fun x j => by rw [if_neg (by omega)], rfl⟩
    · simp (disch := omega) only [leT, leF, ltT, ltF, eqT, eqF, inT, n_cl, nI_add, pk_mul, n_div, pk_sub, md8, md2, or_true, true_or, or_false, false_or, Bool.true_eq_false, Bool.false_eq_true, L0, L1, L2, L3, L4, L5, L6, L7, L8, L9, L10, L20, L31, L40, L64, L99, L100, L255, L256, L999, L1000, L99999, ↓reduceIte]
      obtain ⟨m', a1, a2, a3⟩ := ih (k + 1) (pI m (s + 1) k v) (by omega) (by omega)
      refine ⟨m', a1, fun x j => ?_, a3⟩
      rw [a2]
      by_cases y : x = s + 1 ∧ j = k
      · rw [if_neg (by omega), if_pos (by omega), y.1, y.2, rIs]
      · rw [rIn (by omega)]
        by_cases q : x = s + 1 ∧ k + 1 ≤ j ∧ j < 40
        · rw [if_pos q, if_pos (by omega)]
        · rw [if_neg q, if_neg (by omega)]
theorem sbec_c (s : Nat) (p0 p1 : Int32) (m : Mem) : ∃ m', X6_become s p0 p1 m = some m' ∧ m'.1 s 0 = p0 ∧ m'.1 s 1 = p1 ∧ (∀ k, k < 40 → m'.1 (s + 1) k = nI 0) ∧ (∀ x j, ¬ (s ≤ x ∧ x ≤ s + 1) → m'.1 x j = m.1 x j) ∧ m'.2 = m.2 := by
  obtain ⟨m', a1, a2, a3⟩ := fill_c s (nI 0) 10000 0 (pI (pI m s 0 p0) s 1 p1) (by decide) (by decide)
  refine ⟨m', ?_, ?_, ?_, fun k hk => ?_, fun x j h => ?_, a3⟩
  · unfold X6_become J7_fill_53178
    simp (disch := omega) only [leT, leF, ltT, ltF, eqT, eqF, inT, n_cl, nI_add, pk_mul, n_div, pk_sub, md8, md2, or_true, true_or, or_false, false_or, Bool.true_eq_false, Bool.false_eq_true, L0, L1, L2, L3, L4, L5, L6, L7, L8, L9, L10, L20, L31, L40, L64, L99, L100, L255, L256, L999, L1000, L99999, ↓reduceIte, a1, bv]
  · rw [a2, if_neg (by omega), rIn (by omega), rIs]
  · rw [a2, if_neg (by omega), rIs]
  · rw [a2, if_pos (by omega)]
  · rw [a2, if_neg (by omega), rIn (by omega), rIn (by omega)]
theorem shl_r {s so sz : Nat} (hs : s < 4) (ho : so < 3) (hz : sz ≤ 40) : ∀ n k m, k ≤ sz → sz - k < n → ∃ m', X10_sheet_77 n (nI s) (nI so) (nI sz) (nI k) m = some (nI 1, m') ∧ (∀ x j, m'.1 x j = if x = 78 ∧ 40 * s + k ≤ j ∧ j < 40 * s + sz then nI 0 else m.1 x j) ∧ m'.2 = m.2 := by
  intro n
  induction n with
  | zero => intro k m _ h; omega
  | succ n ih =>
    intro k m hk hn
    rw [X10_sheet_77]
    by_cases h : k = sz
    · subst h
      simp (disch := omega) only [leT, leF, ltT, ltF, eqT, eqF, inT, n_cl, nI_add, pk_mul, n_div, pk_sub, md8, md2, or_true, true_or, or_false, false_or, Bool.true_eq_false, Bool.false_eq_true, L0, L1, L2, L3, L4, L5, L6, L7, L8, L9, L10, L20, L31, L40, L64, L99, L100, L255, L256, L999, L1000, L99999, ↓reduceIte, L11, L12, L13, L14, L15, L16, L30, L48, L160, K1, K2, K3, K4, K5, K7, K8, K9, K15, K17, K20, K27, K37, K48, K99, K255, inR, isPlace_r, isPlace_c, isSheet_r]
      exact ⟨m, rfl, fun x j => by rw [if_neg (by omega)], rfl⟩
    · simp (disch := omega) only [leT, leF, ltT, ltF, eqT, eqF, inT, n_cl, nI_add, pk_mul, n_div, pk_sub, md8, md2, or_true, true_or, or_false, false_or, Bool.true_eq_false, Bool.false_eq_true, L0, L1, L2, L3, L4, L5, L6, L7, L8, L9, L10, L20, L31, L40, L64, L99, L100, L255, L256, L999, L1000, L99999, ↓reduceIte, L11, L12, L13, L14, L15, L16, L30, L48, L160, K1, K2, K3, K4, K5, K7, K8, K9, K15, K17, K20, K27, K37, K48, K99, K255, inR, isPlace_r, isPlace_c, isSheet_r]
      obtain ⟨m', a1, a2, a3⟩ := ih (k + 1) (pI m 78 (40 * s + k) (nI 0)) (by omega) (by omega)
      refine ⟨m', a1, fun x j => ?_, a3⟩
      rw [a2]
      by_cases y : x = 78 ∧ j = 40 * s + k
      · rw [if_neg (by omega), if_pos (by omega), y.1, y.2, rIs]
      · rw [rIn (by omega)]
        by_cases q : x = 78 ∧ 40 * s + (k + 1) ≤ j ∧ j < 40 * s + sz
        · rw [if_pos q, if_pos (by omega)]
        · rw [if_neg q, if_neg (by omega)]
theorem IW_sh {cd : Nat → Cd} {r rk : Nat → Nat} {G H : Fo} {tp : Nat → Nat} {n nt : Nat} {m m' : Mem} (hW : IW cd r rk G H tp n nt m) (h : ∀ x j, ¬ (55 ≤ x ∧ x ≤ 62) → ¬ (75 ≤ x ∧ x ≤ 78) → m'.1 x j = m.1 x j) (hs : ∀ i, i < 4 → SHE m' i) : IW cd r rk G H tp n nt m' := by
  obtain ⟨g1, g2, g3, g4, g5, g6, g7, g8⟩ := hW
  exact ⟨RE_f (fun x j q => h x j (by omega) (by omega)) g1, RF_g (fun x j a b => h x j (by omega) (by omega)) g2, RR_f (fun x j q => h x j (by omega) (by omega)) g3, g4, KP_g (fun x j q => h x j (by omega) (by omega)) g5, TPE_g (fun x j q => h x j (by omega) (by omega)) g6, NTE_g (fun x j q => h x j (by omega) (by omega)) g7, hs⟩
theorem SHE_s {i : Nat} {m m' : Mem} (h : ∀ x j, (55 + 2 * i ≤ x ∧ x ≤ 56 + 2 * i ∨ 75 ≤ x ∧ x ≤ 77 ∧ j = i ∨ x = 78 ∧ 40 * i ≤ j ∧ j < 40 * i + 40) → m'.1 x j = m.1 x j) (g : SHE m i) : SHE m' i := by
  unfold SHE
  rw [h _ _ (by omega), h _ _ (by omega)]
  rcases g with g | ⟨so, sz, g1, g2, g3, g4, g5, g6, g7, g8⟩
  · exact .inl g
  · refine .inr ⟨so, sz, g1, g2, ?_, ?_, ?_, ?_, ?_, fun k hk => ?_⟩
    · rw [h _ _ (by omega)]; exact g3
    · rw [h _ _ (by omega)]; exact g4
    · rw [h _ _ (by omega)]; exact g5
    · rw [h _ _ (by omega)]; exact g6
    · rw [h _ _ (by omega)]; exact g7
    · rw [h _ _ (by omega), h _ _ (by omega)]; exact g8 k hk
/-- a sheet laid anew, by the class and by the reference -/
theorem sh_new {s so sz : Nat} {m m1 m2 : Mem} (hs : s < 4) (ho : so < 3) (hz : sz ≤ 40) (b1 : m1.1 (55 + 2 * s) 0 = nI so) (b2 : m1.1 (55 + 2 * s) 1 = nI sz) (b3 : ∀ k, k < 40 → m1.1 (55 + 2 * s + 1) k = nI 0) (b4 : ∀ x j, ¬ (55 + 2 * s ≤ x ∧ x ≤ 55 + 2 * s + 1) → m1.1 x j = m.1 x j) (c1 : ∀ x j, m2.1 x j = if x = 78 ∧ 40 * s + 0 ≤ j ∧ j < 40 * s + sz then nI 0 else (pI (pI (pI m1 75 s (nI 1)) 76 s (nI so)) 77 s (nI sz)).1 x j) (w8 : ∀ i, i < 4 → SHE m i) : (∀ i, i < 4 → SHE m2 i) ∧ (∀ x j, ¬ (55 ≤ x ∧ x ≤ 62) → ¬ (75 ≤ x ∧ x ≤ 78) → m2.1 x j = m.1 x j) ∧ SHt m2 s so sz ∧ (∀ k, k < sz → m2.1 78 (40 * s + k) = nI 0) := by
  have t : SHt m2 s so sz := by
    refine ⟨by omega, hz, ?_, ?_, ?_, ?_, ?_, fun k hk => ?_⟩
    · rw [c1, if_neg (by omega), rIn (by omega), rIn (by omega), rIn (by omega)]; exact b1
    · rw [c1, if_neg (by omega), rIn (by omega), rIn (by omega), rIn (by omega)]; exact b2
    · rw [c1, if_neg (by omega), rIn (by omega), rIn (by omega), rIs]
    · rw [c1, if_neg (by omega), rIn (by omega), rIs]
    · rw [c1, if_neg (by omega), rIs]
    · rw [c1, if_neg (by omega), rIn (by omega), rIn (by omega), rIn (by omega), c1, if_pos (by omega), show 56 + 2 * s = 55 + 2 * s + 1 by omega]
      exact b3 k (by omega)
  refine ⟨fun i hi => ?_, fun x j h1 h2 => ?_, t, fun k hk => by rw [c1, if_pos (by omega)]⟩
  · by_cases q : i = s
    · subst q; exact .inr ⟨so, sz, t⟩
    · refine SHE_s (fun x j h => ?_) (w8 i hi)
      rw [c1, if_neg (by omega), rIn (by omega), rIn (by omega), rIn (by omega), b4 x j (by omega)]
  · rw [c1, if_neg (by omega), rIn (by omega), rIn (by omega), rIn (by omega), b4 x j (by omega)]
theorem o_sheet : ob_sheet Iv := by
  rintro c nt z m a1 a2 a3 hc ⟨cd, r, rk, G, H, tp, n, ve, hv, hE, hW⟩
  have bad : Iv (c + 1) nt z m := Iv_0 hv hE hW
  have w8 := hW.2.2.2.2.2.2.2
  unfold X9_sheet X10_sheet X10_sheet_34 X10_sheet_45 X10_sheet_59
  have n14 := bad
  rcases dich a1 4 (by decide) with ⟨s, hs, rfl⟩ | d
  · have so1 := fun m' => shOf_c hs m'
    rcases dich3 a2 with ⟨so, ho, rfl⟩ | rfl | ⟨e1, e2, e3⟩
    · obtain ⟨n1, n2, n3, n4⟩ := so_n so ho
      rcases dich a3 41 (by decide) with ⟨sz, hz, rfl⟩ | ⟨d0, d1 | ⟨d1, d2, d3, d4⟩⟩
      · obtain ⟨m1, b0, b1, b2, b3, b4, b5⟩ := sbec_c (55 + 2 * s) (nI so) (nI sz) m
        obtain ⟨m2, c0, c1, c2⟩ := shl_r hs ho (show sz ≤ 40 by omega) 10000 0 (pI (pI (pI m1 75 s (nI 1)) 76 s (nI so)) 77 s (nI sz)) (Nat.zero_le _) (by omega)
        obtain ⟨k1, k2, _⟩ := sh_new hs ho (by omega) b1 b2 b3 b4 c1 w8
        simp (disch := omega) only [leT, leF, ltT, ltF, eqT, eqF, inT, n_cl, nI_add, pk_mul, n_div, pk_sub, md8, md2, or_true, true_or, or_false, false_or, Bool.true_eq_false, Bool.false_eq_true, L0, L1, L2, L3, L4, L5, L6, L7, L8, L9, L10, L20, L31, L40, L64, L99, L100, L255, L256, L999, L1000, L99999, ↓reduceIte, L11, L12, L13, L14, L15, L16, L30, L48, L160, K1, K2, K3, K4, K5, K7, K8, K9, K15, K17, K20, K27, K37, K48, K99, K255, inR, isPlace_r, isPlace_c, isSheet_r, so1, bq, oq, n1, n2, b0, bv]
        exact ⟨_, _, m2, rfl, by simp (disch := omega) only [leT, leF, ltT, ltF, eqT, eqF, inT, n_cl, nI_add, pk_mul, n_div, pk_sub, md8, md2, or_true, true_or, or_false, false_or, Bool.true_eq_false, Bool.false_eq_true, L0, L1, L2, L3, L4, L5, L6, L7, L8, L9, L10, L20, L31, L40, L64, L99, L100, L255, L256, L999, L1000, L99999, ↓reduceIte, L11, L12, L13, L14, L15, L16, L30, L48, L160, K1, K2, K3, K4, K5, K7, K8, K9, K15, K17, K20, K27, K37, K48, K99, K255, inR, isPlace_r, isPlace_c, isSheet_r, bi, inM, n2, c0], cd, r, rk, G, H, tp, n, ve, by omega, CE_g hE (fun x j h => k2 x j (by omega) (by omega)) (fun x j _ _ => by rw [c2]; show m1.2 x j = _; rw [b5]), IW_sh hW k2 k1⟩
      · simp (disch := omega) only [leT, leF, ltT, ltF, eqT, eqF, inT, n_cl, nI_add, pk_mul, n_div, pk_sub, md8, md2, or_true, true_or, or_false, false_or, Bool.true_eq_false, Bool.false_eq_true, L0, L1, L2, L3, L4, L5, L6, L7, L8, L9, L10, L20, L31, L40, L64, L99, L100, L255, L256, L999, L1000, L99999, ↓reduceIte, L11, L12, L13, L14, L15, L16, L30, L48, L160, K1, K2, K3, K4, K5, K7, K8, K9, K15, K17, K20, K27, K37, K48, K99, K255, inR, isPlace_r, isPlace_c, isSheet_r, so1, bq, oq, n1, n2, ng_le (show 40 < 2147483648 by decide) d1, ng_ge d1]
        exact ⟨_, _, _, rfl, by simp (disch := omega) only [leT, leF, ltT, ltF, eqT, eqF, inT, n_cl, nI_add, pk_mul, n_div, pk_sub, md8, md2, or_true, true_or, or_false, false_or, Bool.true_eq_false, Bool.false_eq_true, L0, L1, L2, L3, L4, L5, L6, L7, L8, L9, L10, L20, L31, L40, L64, L99, L100, L255, L256, L999, L1000, L99999, ↓reduceIte, L11, L12, L13, L14, L15, L16, L30, L48, L160, K1, K2, K3, K4, K5, K7, K8, K9, K15, K17, K20, K27, K37, K48, K99, K255, inR, isPlace_r, isPlace_c, isSheet_r, bi, inM, n2, ng_le (show 40 < 2147483648 by decide) d1, ng_ge d1], bad⟩
      · simp (disch := omega) only [leT, leF, ltT, ltF, eqT, eqF, inT, n_cl, nI_add, pk_mul, n_div, pk_sub, md8, md2, or_true, true_or, or_false, false_or, Bool.true_eq_false, Bool.false_eq_true, L0, L1, L2, L3, L4, L5, L6, L7, L8, L9, L10, L20, L31, L40, L64, L99, L100, L255, L256, L999, L1000, L99999, ↓reduceIte, L11, L12, L13, L14, L15, L16, L30, L48, L160, K1, K2, K3, K4, K5, K7, K8, K9, K15, K17, K20, K27, K37, K48, K99, K255, inR, isPlace_r, isPlace_c, isSheet_r, so1, bq, oq, n1, n2, d4 40 (by decide)]
        exact ⟨_, _, _, rfl, by simp (disch := omega) only [leT, leF, ltT, ltF, eqT, eqF, inT, n_cl, nI_add, pk_mul, n_div, pk_sub, md8, md2, or_true, true_or, or_false, false_or, Bool.true_eq_false, Bool.false_eq_true, L0, L1, L2, L3, L4, L5, L6, L7, L8, L9, L10, L20, L31, L40, L64, L99, L100, L255, L256, L999, L1000, L99999, ↓reduceIte, L11, L12, L13, L14, L15, L16, L30, L48, L160, K1, K2, K3, K4, K5, K7, K8, K9, K15, K17, K20, K27, K37, K48, K99, K255, inR, isPlace_r, isPlace_c, isSheet_r, bi, inM, n2, d4 40 (by decide)], bad⟩
    · have n1 : (-nI 1 < -nI 1) = False := eq_false (by decide)
      have n2 : (-nI 1 ≤ nI 2) = True := eq_true (by decide)
      have n3 : (-nI 1 = -nI 1) = True := eq_true rfl
      have n4 : (-nI 1 < nI 0) = True := eq_true (by decide)
      obtain ⟨m1, b0, b1, b2, b3, b4, b5⟩ := sbec_c (55 + 2 * s) (-nI 1) (nI 0) m
      have lp : ∀ M : Mem, X10_sheet_77 10000 (nI s) (-nI 1) a3 (nI 0) M = some (nI 1, M) := by
        intro M
        rw [X10_sheet_77]
        simp (disch := omega) only [leT, leF, ltT, ltF, eqT, eqF, inT, n_cl, nI_add, pk_mul, n_div, pk_sub, md8, md2, or_true, true_or, or_false, false_or, Bool.true_eq_false, Bool.false_eq_true, L0, L1, L2, L3, L4, L5, L6, L7, L8, L9, L10, L20, L31, L40, L64, L99, L100, L255, L256, L999, L1000, L99999, ↓reduceIte, L11, L12, L13, L14, L15, L16, L30, L48, L160, K1, K2, K3, K4, K5, K7, K8, K9, K15, K17, K20, K27, K37, K48, K99, K255, inR, isPlace_r, isPlace_c, isSheet_r, n4, ite_self]
      simp (disch := omega) only [leT, leF, ltT, ltF, eqT, eqF, inT, n_cl, nI_add, pk_mul, n_div, pk_sub, md8, md2, or_true, true_or, or_false, false_or, Bool.true_eq_false, Bool.false_eq_true, L0, L1, L2, L3, L4, L5, L6, L7, L8, L9, L10, L20, L31, L40, L64, L99, L100, L255, L256, L999, L1000, L99999, ↓reduceIte, L11, L12, L13, L14, L15, L16, L30, L48, L160, K1, K2, K3, K4, K5, K7, K8, K9, K15, K17, K20, K27, K37, K48, K99, K255, inR, isPlace_r, isPlace_c, isSheet_r, so1, bq, oq, n1, n2, n3, b0, bv]
      refine ⟨_, _, pI (pI (pI m1 75 s (nI 0)) 76 s (-nI 1)) 77 s a3, rfl, by simp (disch := omega) only [leT, leF, ltT, ltF, eqT, eqF, inT, n_cl, nI_add, pk_mul, n_div, pk_sub, md8, md2, or_true, true_or, or_false, false_or, Bool.true_eq_false, Bool.false_eq_true, L0, L1, L2, L3, L4, L5, L6, L7, L8, L9, L10, L20, L31, L40, L64, L99, L100, L255, L256, L999, L1000, L99999, ↓reduceIte, L11, L12, L13, L14, L15, L16, L30, L48, L160, K1, K2, K3, K4, K5, K7, K8, K9, K15, K17, K20, K27, K37, K48, K99, K255, inR, isPlace_r, isPlace_c, isSheet_r, bi, inM, n3, n4, lp], cd, r, rk, G, H, tp, n, ve, by omega, CE_g hE (fun x j h => by rw [rIn (by omega), rIn (by omega), rIn (by omega), b4 x j (by omega)]) (fun x j _ _ => by rw [rI2, rI2, rI2, b5]), IW_sh hW (fun x j h1 h2 => by rw [rIn (by omega), rIn (by omega), rIn (by omega), b4 x j (by omega)]) (fun i hi => ?_)⟩
      by_cases q : i = s
      · subst q
        left
        refine ⟨by rw [rIn (by omega), rIn (by omega), rIn (by omega)]; exact b1, by rw [rIn (by omega), rIn (by omega), rIs]⟩
      · refine SHE_s (fun x j h => ?_) (w8 i hi)
        rw [rIn (by omega), rIn (by omega), rIn (by omega), b4 x j (by omega)]
    · rcases e3 with e3 | ⟨e3, e4⟩
      · simp (disch := omega) only [leT, leF, ltT, ltF, eqT, eqF, inT, n_cl, nI_add, pk_mul, n_div, pk_sub, md8, md2, or_true, true_or, or_false, false_or, Bool.true_eq_false, Bool.false_eq_true, L0, L1, L2, L3, L4, L5, L6, L7, L8, L9, L10, L20, L31, L40, L64, L99, L100, L255, L256, L999, L1000, L99999, ↓reduceIte, L11, L12, L13, L14, L15, L16, L30, L48, L160, K1, K2, K3, K4, K5, K7, K8, K9, K15, K17, K20, K27, K37, K48, K99, K255, inR, isPlace_r, isPlace_c, isSheet_r, so1, bq, oq, e3]
        exact ⟨_, _, _, rfl, by simp (disch := omega) only [leT, leF, ltT, ltF, eqT, eqF, inT, n_cl, nI_add, pk_mul, n_div, pk_sub, md8, md2, or_true, true_or, or_false, false_or, Bool.true_eq_false, Bool.false_eq_true, L0, L1, L2, L3, L4, L5, L6, L7, L8, L9, L10, L20, L31, L40, L64, L99, L100, L255, L256, L999, L1000, L99999, ↓reduceIte, L11, L12, L13, L14, L15, L16, L30, L48, L160, K1, K2, K3, K4, K5, K7, K8, K9, K15, K17, K20, K27, K37, K48, K99, K255, inR, isPlace_r, isPlace_c, isSheet_r, bi, inM, e1, e2], bad⟩
      · simp (disch := omega) only [leT, leF, ltT, ltF, eqT, eqF, inT, n_cl, nI_add, pk_mul, n_div, pk_sub, md8, md2, or_true, true_or, or_false, false_or, Bool.true_eq_false, Bool.false_eq_true, L0, L1, L2, L3, L4, L5, L6, L7, L8, L9, L10, L20, L31, L40, L64, L99, L100, L255, L256, L999, L1000, L99999, ↓reduceIte, L11, L12, L13, L14, L15, L16, L30, L48, L160, K1, K2, K3, K4, K5, K7, K8, K9, K15, K17, K20, K27, K37, K48, K99, K255, inR, isPlace_r, isPlace_c, isSheet_r, so1, bq, oq, e3, e4]
        exact ⟨_, _, _, rfl, by simp (disch := omega) only [leT, leF, ltT, ltF, eqT, eqF, inT, n_cl, nI_add, pk_mul, n_div, pk_sub, md8, md2, or_true, true_or, or_false, false_or, Bool.true_eq_false, Bool.false_eq_true, L0, L1, L2, L3, L4, L5, L6, L7, L8, L9, L10, L20, L31, L40, L64, L99, L100, L255, L256, L999, L1000, L99999, ↓reduceIte, L11, L12, L13, L14, L15, L16, L30, L48, L160, K1, K2, K3, K4, K5, K7, K8, K9, K15, K17, K20, K27, K37, K48, K99, K255, inR, isPlace_r, isPlace_c, isSheet_r, bi, inM, e1, e2], bad⟩
  · simp (disch := omega) only [leT, leF, ltT, ltF, eqT, eqF, inT, n_cl, nI_add, pk_mul, n_div, pk_sub, md8, md2, or_true, true_or, or_false, false_or, Bool.true_eq_false, Bool.false_eq_true, L0, L1, L2, L3, L4, L5, L6, L7, L8, L9, L10, L20, L31, L40, L64, L99, L100, L255, L256, L999, L1000, L99999, ↓reduceIte, L11, L12, L13, L14, L15, L16, L30, L48, L160, K1, K2, K3, K4, K5, K7, K8, K9, K15, K17, K20, K27, K37, K48, K99, K255, inR, isPlace_r, isPlace_c, isSheet_r, shOf_n d, bq, oq, bi, d.1]
    exact ⟨_, _, _, rfl, rfl, bad⟩
