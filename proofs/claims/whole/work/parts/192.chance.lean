/-! calls: chance -/
def gdN (a b : Nat) : Nat → Nat
  | 0 => 1
  | d + 1 => if d + 1 ≤ 1 then 1 else if a % (d + 1) = 0 ∧ b % (d + 1) = 0 then d + 1 else gdN a b d
theorem gdN_g : ∀ b, b < 21 → ∀ a, a ≤ b → 1 ≤ b → gdN a b b = Nat.gcd a b := by decide +kernel
theorem gd_c {a b : Nat} {m : Mem} (ha : a ≤ 20) (hb : b ≤ 20) : ∀ n d, d ≤ 20 → d < n → X9_greatestDivisor_2 n (nI a) (nI b) (nI d) m = some (nI (gdN a b d), m) := by
  intro n
  induction n with
  | zero => intro d _ h; omega
  | succ n ih =>
    intro d hd hn
    rw [X9_greatestDivisor_2]
    cases d with
    | zero =>
      simp (disch := omega) only [leT, leF, ltT, ltF, eqT, eqF, inT, n_cl, nI_add, pk_mul, n_div, pk_sub, md8, md2, or_true, true_or, or_false, false_or, Bool.true_eq_false, Bool.false_eq_true, L0, L1, L2, L3, L4, L5, L6, L7, L8, L9, L10, L20, L31, L40, L64, L99, L100, L255, L256, L999, L1000, L99999, ↓reduceIte, L11, L12, L13, L14, L15, L16, L30, L48, L160, K1, K2, K3, K4, K5, K7, K8, K9, K15, K17, K20, K27, K37, K48, K99, K255, inR, isPlace_r, isPlace_c, isSheet_r]
      rfl
    | succ d =>
      by_cases h1 : d + 1 ≤ 1
      · simp (disch := omega) only [leT, leF, ltT, ltF, eqT, eqF, inT, n_cl, nI_add, pk_mul, n_div, pk_sub, md8, md2, or_true, true_or, or_false, false_or, Bool.true_eq_false, Bool.false_eq_true, L0, L1, L2, L3, L4, L5, L6, L7, L8, L9, L10, L20, L31, L40, L64, L99, L100, L255, L256, L999, L1000, L99999, ↓reduceIte, L11, L12, L13, L14, L15, L16, L30, L48, L160, K1, K2, K3, K4, K5, K7, K8, K9, K15, K17, K20, K27, K37, K48, K99, K255, inR, isPlace_r, isPlace_c, isSheet_r]
        rw [gdN, if_pos h1]
      · have hA := pk_rem (a := a) (d := d + 1) (by omega) (by omega) (by omega)
        have hB := pk_rem (a := b) (d := d + 1) (by omega) (by omega) (by omega)
        rw [n_div (by omega) (by omega) (by omega), pk_mul] at hA hB
        have em : nI (d + 1) + -nI 1 = nI d := pk_m1 d
        have la : a % (d + 1) < d + 1 := Nat.mod_lt _ (by omega)
        have lb : b % (d + 1) < d + 1 := Nat.mod_lt _ (by omega)
        have hi := ih d (by omega) (by omega)
        by_cases qa : a % (d + 1) = 0
        · by_cases qb : b % (d + 1) = 0
          · have hst : gdN a b (d + 1) = d + 1 := by rw [gdN, if_neg h1, if_pos ⟨qa, qb⟩]
            rw [hst]
            simp (disch := omega) only [leT, leF, ltT, ltF, eqT, eqF, inT, n_cl, nI_add, pk_mul, n_div, pk_sub, md8, md2, or_true, true_or, or_false, false_or, Bool.true_eq_false, Bool.false_eq_true, L0, L1, L2, L3, L4, L5, L6, L7, L8, L9, L10, L20, L31, L40, L64, L99, L100, L255, L256, L999, L1000, L99999, ↓reduceIte, L11, L12, L13, L14, L15, L16, L30, L48, L160, K1, K2, K3, K4, K5, K7, K8, K9, K15, K17, K20, K27, K37, K48, K99, K255, inR, isPlace_r, isPlace_c, isSheet_r, hA, hB, not_false_eq_true]
          · have hst : gdN a b (d + 1) = gdN a b d := by rw [gdN, if_neg h1, if_neg (fun y => qb y.2)]
            rw [hst]
            simp (disch := omega) only [leT, leF, ltT, ltF, eqT, eqF, inT, n_cl, nI_add, pk_mul, n_div, pk_sub, md8, md2, or_true, true_or, or_false, false_or, Bool.true_eq_false, Bool.false_eq_true, L0, L1, L2, L3, L4, L5, L6, L7, L8, L9, L10, L20, L31, L40, L64, L99, L100, L255, L256, L999, L1000, L99999, ↓reduceIte, L11, L12, L13, L14, L15, L16, L30, L48, L160, K1, K2, K3, K4, K5, K7, K8, K9, K15, K17, K20, K27, K37, K48, K99, K255, inR, isPlace_r, isPlace_c, isSheet_r, hA, hB, not_false_eq_true, X9_greatestDivisor_21, em]
            exact hi
        · have hst : gdN a b (d + 1) = gdN a b d := by rw [gdN, if_neg h1, if_neg (fun y => qa y.1)]
          rw [hst]
          simp (disch := omega) only [leT, leF, ltT, ltF, eqT, eqF, inT, n_cl, nI_add, pk_mul, n_div, pk_sub, md8, md2, or_true, true_or, or_false, false_or, Bool.true_eq_false, Bool.false_eq_true, L0, L1, L2, L3, L4, L5, L6, L7, L8, L9, L10, L20, L31, L40, L64, L99, L100, L255, L256, L999, L1000, L99999, ↓reduceIte, L11, L12, L13, L14, L15, L16, L30, L48, L160, K1, K2, K3, K4, K5, K7, K8, K9, K15, K17, K20, K27, K37, K48, K99, K255, inR, isPlace_r, isPlace_c, isSheet_r, hA, not_false_eq_true, X9_greatestDivisor_21, em]
          exact hi
theorem gcd_st {p q : Nat} : Nat.gcd p q = Nat.gcd q (p % q) := by
  rw [Nat.gcd_comm p q, Nat.gcd_rec q p, Nat.gcd_comm]
theorem K0 : (0 : Int64) = lN 0 := rfl
theorem gd_r {a b w : Nat} {m : Mem} (ha : a ≤ 20) (hb : 1 ≤ b) (hb2 : b ≤ 20) (hw : w < 2) : ∀ n p q, q < n → p ≤ 20 → q ≤ 20 → Nat.gcd p q = Nat.gcd a b → X10_chance_87 n (nI b) (nI w) (lN a) (lN p) (lN q) m = some (if w = 0 then lN (a / Nat.gcd a b) else lN (b / Nat.gcd a b), m) := by
  have gp : 0 < Nat.gcd a b := Nat.gcd_pos_of_pos_right _ (by omega)
  have gl : Nat.gcd a b ≤ b := Nat.gcd_le_right _ (by omega)
  intro n
  induction n with
  | zero => intro p q h; exact absurd h (Nat.not_lt_zero _)
  | succ n ih =>
    intro p q hq hp hq2 hg
    rw [X10_chance_87]
    by_cases q0 : q = 0
    · subst q0
      rw [Nat.gcd_zero_right] at hg
      rw [hg]
      have c1 : (lg_cmp (lN 0) (0 : Int64) = 0) := (lg_cmp_eq _ _).mpr rfl
      have c2 : ¬ (lN (Nat.gcd a b) = (0 : Int64)) := fun y => by
        have := (pk_lEQ (a := Nat.gcd a b) (b := 0) (by omega) (by decide)).mp y
        omega
      rw [if_pos c1]
      by_cases w0 : w = 0
      · rw [if_pos (show nI w = 0 by rw [w0]; rfl), if_pos c2, pk_lDiv (by omega) gp (by omega), if_pos w0]
      · rw [if_neg (show ¬ nI w = 0 from fun y => w0 ((nI_eq (b := 0) (by omega) (by decide)).mp y)), if_pos c2, nI_l (by omega), pk_lDiv (by omega) gp (by omega), if_neg w0]
    · have c1 : ¬ (lg_cmp (lN q) (0 : Int64) = 0) := fun y => q0 ((pk_lEQ (b := 0) (by omega) (by decide)).mp ((lg_cmp_eq _ _).mp y))
      have c2 : ¬ (lN q = (0 : Int64)) := fun y => q0 ((pk_lEQ (b := 0) (by omega) (by decide)).mp y)
      rw [if_neg c1, if_pos c2, pk_lRem (by omega) (by omega) (by omega)]
      have := Nat.mod_lt p (show q > 0 by omega)
      exact ih q (p % q) (by omega) (by omega) (by omega) (by rw [← gcd_st]; exact hg)
def chS (cd : Nat → Cd) (r : Nat → Nat) (G : Fo) (v : Int32) (K : Nat) : Nat → Nat
  | 0 => 0
  | i + 1 => chS cd r G v K i + if dwV cd r G (v + nI i) < K then 0 else 1
def chV (a b w : Nat) : Int64 := if w = 0 then lN (a / Nat.gcd a b) else lN (b / Nat.gcd a b)
section
variable {c nt ve f R bu n w K M p t : Nat} {z : Nat → Nat} {m ma mb : Mem} {G G' H : Fo} {cd : Nat → Cd} {r rk : Nat → Nat} {tp : Nat → Nat} {v : Int32}
theorem chS_le : ∀ i, chS cd r G v K i ≤ i := by
  intro i
  induction i with
  | zero => exact Nat.le_refl _
  | succ i ih => rw [chS]; split <;> omega
theorem ch_c (hG : GO nt 999 G) (hM : 1 ≤ M) (hM2 : M ≤ 20) (hK : K ≤ 48) (hw : w < 2) : ∀ n i m, i ≤ M → M - i < n → CE cd r nt z ve m → RF 5 m G → ∃ m', X9_chance_42 nt z n v (nI M) (nI K) (nI w) (nI (chS cd r G v K i)) (nI i) m = some (chV (chS cd r G v K M) M w, m') ∧ CE cd r nt z ve m' ∧ SF m m' := by
  intro n
  induction n with
  | zero => intro i m _ h; omega
  | succ n ih =>
    intro i m hi hn hE hR
    rw [X9_chance_42]
    by_cases h8 : i = M
    · subst h8
      have hl := chS_le (cd := cd) (r := r) (G := G) (v := v) (K := K) i
      generalize chS cd r G v K i = a at hl ⊢
      have g1 : X9_greatestDivisor (nI a) (nI i) m = some (nI (Nat.gcd a i), m) := by
        rw [← gdN_g i (by omega) a hl hM]
        exact gd_c (by omega) (by omega) 10000 i (by omega) (by omega)
      have gp : 0 < Nat.gcd a i := Nat.gcd_pos_of_pos_right _ (by omega)
      have gl : Nat.gcd a i ≤ i := Nat.gcd_le_right _ (by omega)
      have d1 : a / Nat.gcd a i ≤ a := Nat.div_le_self _ _
      have d2 : i / Nat.gcd a i ≤ i := Nat.div_le_self _ _
      unfold chV
      by_cases w0 : w = 0
      · simp (disch := omega) only [leT, leF, ltT, ltF, eqT, eqF, inT, n_cl, nI_add, pk_mul, n_div, pk_sub, md8, md2, or_true, true_or, or_false, false_or, Bool.true_eq_false, Bool.false_eq_true, L0, L1, L2, L3, L4, L5, L6, L7, L8, L9, L10, L20, L31, L40, L64, L99, L100, L255, L256, L999, L1000, L99999, ↓reduceIte, L11, L12, L13, L14, L15, L16, L30, L48, L160, K1, K2, K3, K4, K5, K7, K8, K9, K15, K17, K20, K27, K37, K48, K99, K255, inR, isPlace_r, isPlace_c, isSheet_r, g1, bi, not_false_eq_true, nI_l, w0]
        exact ⟨m, rfl, hE, SF_r m⟩
      · simp (disch := omega) only [leT, leF, ltT, ltF, eqT, eqF, inT, n_cl, nI_add, pk_mul, n_div, pk_sub, md8, md2, or_true, true_or, or_false, false_or, Bool.true_eq_false, Bool.false_eq_true, L0, L1, L2, L3, L4, L5, L6, L7, L8, L9, L10, L20, L31, L40, L64, L99, L100, L255, L256, L999, L1000, L99999, ↓reduceIte, L11, L12, L13, L14, L15, L16, L30, L48, L160, K1, K2, K3, K4, K5, K7, K8, K9, K15, K17, K20, K27, K37, K48, K99, K255, inR, isPlace_r, isPlace_c, isSheet_r, g1, bi, not_false_eq_true, nI_l, w0]
        exact ⟨m, rfl, hE, SF_r m⟩
    · obtain ⟨m1, x1, x2, x3⟩ := drawn_c hE hR hG (v + nI i)
      have R1 : RF 5 m1 G := RF_g (fun a j h1 h2 => x3 a j (by omega) (by omega) (by omega) (by omega) (by omega) (by omega) (by omega) (by omega)) hR
      obtain ⟨m2, y1, y2, y3⟩ := ih (i + 1) m1 (by omega) (by omega) x2 R1
      have hd := dwV_le (cd := cd) (r := r) (v := v + nI i) hG
      have hl := chS_le (cd := cd) (r := r) (G := G) (v := v) (K := K) i
      rw [chS] at y1
      by_cases q : dwV cd r G (v + nI i) < K
      · rw [if_pos q] at y1
        simp (disch := omega) only [leT, leF, ltT, ltF, eqT, eqF, inT, n_cl, nI_add, pk_mul, n_div, pk_sub, md8, md2, or_true, true_or, or_false, false_or, Bool.true_eq_false, Bool.false_eq_true, L0, L1, L2, L3, L4, L5, L6, L7, L8, L9, L10, L20, L31, L40, L64, L99, L100, L255, L256, L999, L1000, L99999, ↓reduceIte, L11, L12, L13, L14, L15, L16, L30, L48, L160, K1, K2, K3, K4, K5, K7, K8, K9, K15, K17, K20, K27, K37, K48, K99, K255, inR, isPlace_r, isPlace_c, isSheet_r, x1, bi, X9_chance_63]
        exact ⟨m2, y1, y2, SF_t x3 y3⟩
      · rw [if_neg q] at y1
        simp (disch := omega) only [leT, leF, ltT, ltF, eqT, eqF, inT, n_cl, nI_add, pk_mul, n_div, pk_sub, md8, md2, or_true, true_or, or_false, false_or, Bool.true_eq_false, Bool.false_eq_true, L0, L1, L2, L3, L4, L5, L6, L7, L8, L9, L10, L20, L31, L40, L64, L99, L100, L255, L256, L999, L1000, L99999, ↓reduceIte, L11, L12, L13, L14, L15, L16, L30, L48, L160, K1, K2, K3, K4, K5, K7, K8, K9, K15, K17, K20, K27, K37, K48, K99, K255, inR, isPlace_r, isPlace_c, isSheet_r, x1, bi, X9_chance_63]
        exact ⟨m2, y1, y2, SF_t x3 y3⟩
theorem ch_r (hG : GO nt R G) (hM : 1 ≤ M) (hM2 : M ≤ 20) (hK : K ≤ 48) (hw : w < 2) : ∀ n i m, i ≤ M → M - i < n → RE cd r nt m → RR m G → ∃ m', X10_chance_45 n v (nI M) (nI K) (nI w) (lN (chS cd r G v K i)) (nI i) m = some (chV (chS cd r G v K M) M w, m') ∧ RR m' G ∧ Bk m m' := by
  intro n
  induction n with
  | zero => intro i m _ h; omega
  | succ n ih =>
    intro i m hi hn hE hR
    rw [X10_chance_45]
    by_cases h8 : i = M
    · subst h8
      have hl := chS_le (cd := cd) (r := r) (G := G) (v := v) (K := K) i
      generalize chS cd r G v K i = a at hl ⊢
      rw [if_pos (nI_le (Nat.le_refl _) (by omega)), nI_l (by omega), gd_r (by omega) hM hM2 hw 10000 a i (by omega) (by omega) (by omega) rfl]
      exact ⟨m, rfl, hR, Bk_r m⟩
    · obtain ⟨m1, x1, x2, x3⟩ := drawn_r hE hR hG (v + nI i)
      obtain ⟨m2, y1, y2, y3⟩ := ih (i + 1) m1 (by omega) (by omega) (Bk_re x3 hE) x2
      have hd := dwV_le (cd := cd) (r := r) (v := v + nI i) hG
      rw [chS] at y1
      by_cases q : dwV cd r G (v + nI i) < K
      · rw [if_pos q] at y1
        simp (disch := omega) only [leT, leF, ltT, ltF, eqT, eqF, inT, n_cl, nI_add, pk_mul, n_div, pk_sub, md8, md2, or_true, true_or, or_false, false_or, Bool.true_eq_false, Bool.false_eq_true, L0, L1, L2, L3, L4, L5, L6, L7, L8, L9, L10, L20, L31, L40, L64, L99, L100, L255, L256, L999, L1000, L99999, ↓reduceIte, L11, L12, L13, L14, L15, L16, L30, L48, L160, K1, K2, K3, K4, K5, K7, K8, K9, K15, K17, K20, K27, K37, K48, K99, K255, inR, isPlace_r, isPlace_c, isSheet_r, K0, x1, bi, X10_chance_70, lN_add]
        exact ⟨m2, y1, y2, Bk_t x3 y3⟩
      · rw [if_neg q] at y1
        simp (disch := omega) only [leT, leF, ltT, ltF, eqT, eqF, inT, n_cl, nI_add, pk_mul, n_div, pk_sub, md8, md2, or_true, true_or, or_false, false_or, Bool.true_eq_false, Bool.false_eq_true, L0, L1, L2, L3, L4, L5, L6, L7, L8, L9, L10, L20, L31, L40, L64, L99, L100, L255, L256, L999, L1000, L99999, ↓reduceIte, L11, L12, L13, L14, L15, L16, L30, L48, L160, K1, K2, K3, K4, K5, K7, K8, K9, K15, K17, K20, K27, K37, K48, K99, K255, inR, isPlace_r, isPlace_c, isSheet_r, x1, bi, X10_chance_70, lN_add]
        exact ⟨m2, y1, y2, Bk_t x3 y3⟩
end
theorem inOut {x : Int32} {a b : Nat} (hb : b < 1000000) (ha : a < 1000000) (d : OutR x (b + 1)) (m : Mem) : X10_in x.toInt64 (lN a) (lN b) m = some (nI 0, m) := by
  rw [in_s]
  have e1 : (x.toInt64).toInt = x.toInt := Int32.toInt_toInt64 x
  have e2 : (lN a).toInt = a := pk_lT (by omega)
  have e3 : (lN b).toInt = b := pk_lT (by omega)
  have h : ¬ inn x (b + 1) := by rw [d.1]; exact fun q => q
  rw [inn_i] at h
  rw [e1, e2, e3, if_neg (by omega)]; rfl
theorem lt_of_ng {x : Int32} {k : Nat} (hk : k < 2147483648) (h : (x < nI 0) = True) (h1 : 0 < k) : (x < nI k) = True := eq_true (by
  have h1 : x < nI 0 := by rw [h]; trivial
  have h2 := Int32.lt_iff_toInt_lt.mp h1
  rw [show (nI 0).toInt = 0 from rfl] at h2
  apply Int32.lt_iff_toInt_lt.mpr
  rw [nI_toInt hk]
  omega)
theorem gt_of_le {x y : Int32} (h : (x ≤ y) = False) : (y < x) = True := eq_true (by
  have h1 : ¬ x ≤ y := by rw [h]; exact fun q => q
  apply Int32.lt_iff_toInt_lt.mpr
  rcases Int.lt_or_le y.toInt x.toInt with q | q
  · exact q
  · exact absurd (Int32.le_iff_toInt_le.mpr q) h1)
theorem nlt_of_le {x : Int32} {k : Nat} (h : (x ≤ nI (k + 1)) = False) (hk : k + 1 < 2147483648) : (x < nI (k + 1)) = False := eq_false (fun q => by
  have h1 : ¬ x ≤ nI (k + 1) := by rw [h]; exact fun q => q
  apply h1
  apply Int32.le_iff_toInt_le.mpr
  have := Int32.lt_iff_toInt_lt.mp q
  omega)
theorem o_chance : ob_chance Iv := by
  rintro c nt z m a1 a2 a3 a4 hc ⟨cd, r, rk, G, H, tp, n, ve, hv, hE, hW⟩
  have bad : Iv (c + 1) nt z m := Iv_0 hv hE hW
  have hG := hW.2.2.2.1
  rcases dich a2 21 (by decide) with ⟨M, hM, rfl⟩ | d
  · by_cases m0 : M = 0
    · refine ⟨(-4611686018427387904 : Int64), m, m, ?_, ?_, bad⟩
      · unfold X9_chance
        simp (disch := omega) only [leT, leF, ltT, ltF, eqT, eqF, inT, n_cl, nI_add, pk_mul, n_div, pk_sub, md8, md2, or_true, true_or, or_false, false_or, Bool.true_eq_false, Bool.false_eq_true, L0, L1, L2, L3, L4, L5, L6, L7, L8, L9, L10, L20, L31, L40, L64, L99, L100, L255, L256, L999, L1000, L99999, ↓reduceIte, L11, L12, L13, L14, L15, L16, L30, L48, L160, K1, K2, K3, K4, K5, K7, K8, K9, K15, K17, K20, K27, K37, K48, K99, K255, inR, isPlace_r, isPlace_c, isSheet_r]
      · unfold X10_chance
        simp (disch := omega) only [leT, leF, ltT, ltF, eqT, eqF, inT, n_cl, nI_add, pk_mul, n_div, pk_sub, md8, md2, or_true, true_or, or_false, false_or, Bool.true_eq_false, Bool.false_eq_true, L0, L1, L2, L3, L4, L5, L6, L7, L8, L9, L10, L20, L31, L40, L64, L99, L100, L255, L256, L999, L1000, L99999, ↓reduceIte, L11, L12, L13, L14, L15, L16, L30, L48, L160, K1, K2, K3, K4, K5, K7, K8, K9, K15, K17, K20, K27, K37, K48, K99, K255, inR, isPlace_r, isPlace_c, isSheet_r, inAf, bi]
    · rcases dich a3 49 (by decide) with ⟨K, hK, rfl⟩ | ⟨d0, d⟩
      · rcases dich a4 2 (by decide) with ⟨w, hw, rfl⟩ | ⟨d0, d⟩
        · obtain ⟨m1, x1, x2, x3⟩ := ch_c (cd := cd) (r := r) (z := z) (ve := ve) (v := a1) (M := M) (K := K) (w := w) hG (by omega) (by omega) (by omega) hw 10000 0 m (Nat.zero_le _) (by omega) hE hW.2.1
          have W1 := IW_s x3 hW
          obtain ⟨m2, y1, y2, y3⟩ := ch_r (cd := cd) (r := r) (v := a1) (M := M) (K := K) (w := w) hG (by omega) (by omega) (by omega) hw 10000 0 m1 (Nat.zero_le _) (by omega) W1.1 W1.2.2.1
          refine ⟨chV (chS cd r G a1 K M) M w, m1, m2, ?_, ?_, Iv_b hv x2 W1 y2 y3⟩
          · unfold X9_chance
            simp (disch := omega) only [leT, leF, ltT, ltF, eqT, eqF, inT, n_cl, nI_add, pk_mul, n_div, pk_sub, md8, md2, or_true, true_or, or_false, false_or, Bool.true_eq_false, Bool.false_eq_true, L0, L1, L2, L3, L4, L5, L6, L7, L8, L9, L10, L20, L31, L40, L64, L99, L100, L255, L256, L999, L1000, L99999, ↓reduceIte, L11, L12, L13, L14, L15, L16, L30, L48, L160, K1, K2, K3, K4, K5, K7, K8, K9, K15, K17, K20, K27, K37, K48, K99, K255, inR, isPlace_r, isPlace_c, isSheet_r]
            exact x1
          · unfold X10_chance
            simp (disch := omega) only [leT, leF, ltT, ltF, eqT, eqF, inT, n_cl, nI_add, pk_mul, n_div, pk_sub, md8, md2, or_true, true_or, or_false, false_or, Bool.true_eq_false, Bool.false_eq_true, L0, L1, L2, L3, L4, L5, L6, L7, L8, L9, L10, L20, L31, L40, L64, L99, L100, L255, L256, L999, L1000, L99999, ↓reduceIte, L11, L12, L13, L14, L15, L16, L30, L48, L160, K1, K2, K3, K4, K5, K7, K8, K9, K15, K17, K20, K27, K37, K48, K99, K255, inR, isPlace_r, isPlace_c, isSheet_r, inAt, bi]
            exact y1
        · refine ⟨(-4611686018427387904 : Int64), m, m, ?_, ?_, bad⟩
          · unfold X9_chance
            rcases d with d1 | ⟨d1, d2, d3, d4⟩
            · simp (disch := omega) only [leT, leF, ltT, ltF, eqT, eqF, inT, n_cl, nI_add, pk_mul, n_div, pk_sub, md8, md2, or_true, true_or, or_false, false_or, Bool.true_eq_false, Bool.false_eq_true, L0, L1, L2, L3, L4, L5, L6, L7, L8, L9, L10, L20, L31, L40, L64, L99, L100, L255, L256, L999, L1000, L99999, ↓reduceIte, L11, L12, L13, L14, L15, L16, L30, L48, L160, K1, K2, K3, K4, K5, K7, K8, K9, K15, K17, K20, K27, K37, K48, K99, K255, inR, isPlace_r, isPlace_c, isSheet_r, d1]
            · simp (disch := omega) only [leT, leF, ltT, ltF, eqT, eqF, inT, n_cl, nI_add, pk_mul, n_div, pk_sub, md8, md2, or_true, true_or, or_false, false_or, Bool.true_eq_false, Bool.false_eq_true, L0, L1, L2, L3, L4, L5, L6, L7, L8, L9, L10, L20, L31, L40, L64, L99, L100, L255, L256, L999, L1000, L99999, ↓reduceIte, L11, L12, L13, L14, L15, L16, L30, L48, L160, K1, K2, K3, K4, K5, K7, K8, K9, K15, K17, K20, K27, K37, K48, K99, K255, inR, isPlace_r, isPlace_c, isSheet_r, d1, d4 1 (by decide)]
          · unfold X10_chance
            simp (disch := omega) only [leT, leF, ltT, ltF, eqT, eqF, inT, n_cl, nI_add, pk_mul, n_div, pk_sub, md8, md2, or_true, true_or, or_false, false_or, Bool.true_eq_false, Bool.false_eq_true, L0, L1, L2, L3, L4, L5, L6, L7, L8, L9, L10, L20, L31, L40, L64, L99, L100, L255, L256, L999, L1000, L99999, ↓reduceIte, L11, L12, L13, L14, L15, L16, L30, L48, L160, K1, K2, K3, K4, K5, K7, K8, K9, K15, K17, K20, K27, K37, K48, K99, K255, inR, isPlace_r, isPlace_c, isSheet_r, inAt, bi, d0]
      · refine ⟨(-4611686018427387904 : Int64), m, m, ?_, ?_, bad⟩
        · unfold X9_chance
          rcases d with d1 | ⟨d1, d2, d3, d4⟩
          · simp (disch := omega) only [leT, leF, ltT, ltF, eqT, eqF, inT, n_cl, nI_add, pk_mul, n_div, pk_sub, md8, md2, or_true, true_or, or_false, false_or, Bool.true_eq_false, Bool.false_eq_true, L0, L1, L2, L3, L4, L5, L6, L7, L8, L9, L10, L20, L31, L40, L64, L99, L100, L255, L256, L999, L1000, L99999, ↓reduceIte, L11, L12, L13, L14, L15, L16, L30, L48, L160, K1, K2, K3, K4, K5, K7, K8, K9, K15, K17, K20, K27, K37, K48, K99, K255, inR, isPlace_r, isPlace_c, isSheet_r, d1]
          · simp (disch := omega) only [leT, leF, ltT, ltF, eqT, eqF, inT, n_cl, nI_add, pk_mul, n_div, pk_sub, md8, md2, or_true, true_or, or_false, false_or, Bool.true_eq_false, Bool.false_eq_true, L0, L1, L2, L3, L4, L5, L6, L7, L8, L9, L10, L20, L31, L40, L64, L99, L100, L255, L256, L999, L1000, L99999, ↓reduceIte, L11, L12, L13, L14, L15, L16, L30, L48, L160, K1, K2, K3, K4, K5, K7, K8, K9, K15, K17, K20, K27, K37, K48, K99, K255, inR, isPlace_r, isPlace_c, isSheet_r, d1, gt_of_le (d4 48 (by decide))]
        · unfold X10_chance
          simp (disch := omega) only [leT, leF, ltT, ltF, eqT, eqF, inT, n_cl, nI_add, pk_mul, n_div, pk_sub, md8, md2, or_true, true_or, or_false, false_or, Bool.true_eq_false, Bool.false_eq_true, L0, L1, L2, L3, L4, L5, L6, L7, L8, L9, L10, L20, L31, L40, L64, L99, L100, L255, L256, L999, L1000, L99999, ↓reduceIte, L11, L12, L13, L14, L15, L16, L30, L48, L160, K1, K2, K3, K4, K5, K7, K8, K9, K15, K17, K20, K27, K37, K48, K99, K255, inR, isPlace_r, isPlace_c, isSheet_r, inAt, bi, d0]
  · have io := inOut (a := 1) (b := 20) (by decide) (by decide) d m
    obtain ⟨d0, d⟩ := d
    refine ⟨(-4611686018427387904 : Int64), m, m, ?_, ?_, bad⟩
    · unfold X9_chance
      rcases d with d1 | ⟨d1, d2, d3, d4⟩
      · simp (disch := omega) only [leT, leF, ltT, ltF, eqT, eqF, inT, n_cl, nI_add, pk_mul, n_div, pk_sub, md8, md2, or_true, true_or, or_false, false_or, Bool.true_eq_false, Bool.false_eq_true, L0, L1, L2, L3, L4, L5, L6, L7, L8, L9, L10, L20, L31, L40, L64, L99, L100, L255, L256, L999, L1000, L99999, ↓reduceIte, L11, L12, L13, L14, L15, L16, L30, L48, L160, K1, K2, K3, K4, K5, K7, K8, K9, K15, K17, K20, K27, K37, K48, K99, K255, inR, isPlace_r, isPlace_c, isSheet_r, lt_of_ng (show 1 < 2147483648 by decide) d1 (by decide)]
      · simp (disch := omega) only [leT, leF, ltT, ltF, eqT, eqF, inT, n_cl, nI_add, pk_mul, n_div, pk_sub, md8, md2, or_true, true_or, or_false, false_or, Bool.true_eq_false, Bool.false_eq_true, L0, L1, L2, L3, L4, L5, L6, L7, L8, L9, L10, L20, L31, L40, L64, L99, L100, L255, L256, L999, L1000, L99999, ↓reduceIte, L11, L12, L13, L14, L15, L16, L30, L48, L160, K1, K2, K3, K4, K5, K7, K8, K9, K15, K17, K20, K27, K37, K48, K99, K255, inR, isPlace_r, isPlace_c, isSheet_r, nlt_of_le (k := 0) (d4 1 (by decide)) (by decide), gt_of_le (d4 20 (by decide))]
    · unfold X10_chance
      simp (disch := omega) only [leT, leF, ltT, ltF, eqT, eqF, inT, n_cl, nI_add, pk_mul, n_div, pk_sub, md8, md2, or_true, true_or, or_false, false_or, Bool.true_eq_false, Bool.false_eq_true, L0, L1, L2, L3, L4, L5, L6, L7, L8, L9, L10, L20, L31, L40, L64, L99, L100, L255, L256, L999, L1000, L99999, ↓reduceIte, L11, L12, L13, L14, L15, L16, L30, L48, L160, K1, K2, K3, K4, K5, K7, K8, K9, K15, K17, K20, K27, K37, K48, K99, K255, inR, isPlace_r, isPlace_c, isSheet_r, io, bi]
