/-! calls: tells -/
def foP (cd : Nat → Cd) (r : Nat → Nat) (G : Fo) (I : Nat → Int32) (p t : Nat) : Bool := decide (¬ I t = nI (worA cd r G p t))
def foV (cd : Nat → Cd) (r : Nat → Nat) (G : Fo) (I : Nat → Int32) (p : Nat) : Nat := ftQ (foP cd r G I p) 8
def cbS (Q : Nat → Bool) : Nat → Int32
  | 0 => nI 0
  | i + 1 => if Q i = true then cbS Q i ||| (nI 1 <<< (nI i &&& nI 31)) else cbS Q i
theorem gU_g {G : Fo} {j p a b : Nat} : gU (gU G j p a) j p b = gU G j p b := by
  funext j' p'
  unfold gU
  split
  · rfl
  · rfl
theorem gU_e {G : Fo} {j p : Nat} : gU G j p (G j p) = G := by
  funext j' p'
  unfold gU
  split
  · rename_i h; rw [h.1, h.2]
  · rfl
section
variable {c nt ve f R bu n w p t s N : Nat} {z : Nat → Nat} {m ma mb : Mem} {G Gc H : Fo} {cd : Nat → Cd} {r rk : Nat → Nat} {tp : Nat → Nat} {I : Nat → Int32} {Q : Nat → Bool}
theorem fo_c (hG : GO nt 1019 G) (hf : isFo f) (hp : p < 6) (hs : s = 55 ∨ s = 57 ∨ s = 59 ∨ s = 61) : ∀ n t m, t ≤ 8 → 8 - t < n → CE cd r nt z ve m → RF f m G → (∀ u, u < 8 → m.1 (s + 1) u = I u) → ∃ m', X9_firstOtherwise_3 nt z s f n (nI p) (nI t) m = some (nbI (ftQ (foP cd r G I p) (8 - t)), m') ∧ CE cd r nt z ve m' ∧ FrX m m' := by
  intro n
  induction n with
  | zero => intro t m _ h; omega
  | succ n ih =>
    intro t m ht hn hE hR hI
    rw [X9_firstOtherwise_3]
    by_cases h8 : t = 8
    · subst h8
      simp (disch := omega) only [leT, leF, ltT, ltF, eqT, eqF, inT, n_cl, nI_add, pk_mul, n_div, pk_sub, md8, md2, or_true, true_or, or_false, false_or, Bool.true_eq_false, Bool.false_eq_true, L0, L1, L2, L3, L4, L5, L6, L7, L8, L9, L10, L20, L31, L40, L64, L99, L100, L255, L256, L999, L1000, L99999, ↓reduceIte, L11, L12, L13, L14, L15, L16, L30, L48, L160, K1, K2, K3, K4, K5, K7, K8, K9, K15, K17, K20, K27, K37, K48, K99, K255, inR, isPlace_r, isPlace_c, isSheet_r]
      exact ⟨m, rfl, hE, FrX_r m⟩
    · obtain ⟨m1, x1, x2, x3⟩ := worth_c (p := p) (t := t) hE hR hG hf hp (by omega)
      have e := hI t (by omega)
      rw [ftQ_st _ (show t < 8 by omega)]
      by_cases q : I t = nI (worA cd r G p t)
      · have hb : foP cd r G I p t = false := by unfold foP; simp [q]
        obtain ⟨m2, y1, y2, y3⟩ := ih (t + 1) m1 (by omega) (by omega) x2 (FrX_f hf x3 hR) (fun u hu => by rw [x3.1 _ _ (by omega) (by omega) (by omega)]; exact hI u hu)
        rw [hb]
        have q' : (I t = nI (worA cd r G p t)) = True := eq_true q
        simp (disch := omega) only [leT, leF, ltT, ltF, eqT, eqF, inT, n_cl, nI_add, pk_mul, n_div, pk_sub, md8, md2, or_true, true_or, or_false, false_or, Bool.true_eq_false, Bool.false_eq_true, L0, L1, L2, L3, L4, L5, L6, L7, L8, L9, L10, L20, L31, L40, L64, L99, L100, L255, L256, L999, L1000, L99999, ↓reduceIte, L11, L12, L13, L14, L15, L16, L30, L48, L160, K1, K2, K3, K4, K5, K7, K8, K9, K15, K17, K20, K27, K37, K48, K99, K255, inR, isPlace_r, isPlace_c, isSheet_r, x1, bi, e, q']
        exact ⟨m2, y1, y2, FrX_t x3 y3⟩
      · have hb : foP cd r G I p t = true := by unfold foP; simp [q]
        rw [hb]
        have q' : (I t = nI (worA cd r G p t)) = False := eq_false q
        have hn9 : nbI t = nI t := by unfold nbI; rw [if_neg (by omega)]
        simp (disch := omega) only [leT, leF, ltT, ltF, eqT, eqF, inT, n_cl, nI_add, pk_mul, n_div, pk_sub, md8, md2, or_true, true_or, or_false, false_or, Bool.true_eq_false, Bool.false_eq_true, L0, L1, L2, L3, L4, L5, L6, L7, L8, L9, L10, L20, L31, L40, L64, L99, L100, L255, L256, L999, L1000, L99999, ↓reduceIte, L11, L12, L13, L14, L15, L16, L30, L48, L160, K1, K2, K3, K4, K5, K7, K8, K9, K15, K17, K20, K27, K37, K48, K99, K255, inR, isPlace_r, isPlace_c, isSheet_r, x1, bi, e, q']
        exact ⟨m1, by rw [hn9], x2, x3⟩
theorem fo_r (hG : GO nt R G) (hp : p < G 0 0) (hs : s < 4) : ∀ n t m, t ≤ 8 → 8 - t < n → RE cd r nt m → RR m G → (∀ u, u < 8 → m.1 78 (40 * s + u) = I u) → ∃ m', X10_firstOther_2 n (nI s) (nI p) (nI t) m = some (nbI (ftQ (foP cd r G I p) (8 - t)), m') ∧ FrA m m' := by
  intro n
  induction n with
  | zero => intro t m _ h; omega
  | succ n ih =>
    intro t m ht hn hE hR hI
    rw [X10_firstOther_2]
    by_cases h8 : t = 8
    · subst h8
      simp (disch := omega) only [leT, leF, ltT, ltF, eqT, eqF, inT, n_cl, nI_add, pk_mul, n_div, pk_sub, md8, md2, or_true, true_or, or_false, false_or, Bool.true_eq_false, Bool.false_eq_true, L0, L1, L2, L3, L4, L5, L6, L7, L8, L9, L10, L20, L31, L40, L64, L99, L100, L255, L256, L999, L1000, L99999, ↓reduceIte, L11, L12, L13, L14, L15, L16, L30, L48, L160, K1, K2, K3, K4, K5, K7, K8, K9, K15, K17, K20, K27, K37, K48, K99, K255, inR, isPlace_r, isPlace_c, isSheet_r]
      exact ⟨m, rfl, FrA_r m⟩
    · obtain ⟨m1, x1, x3⟩ := worth_r (p := p) (t := t) hE hR hG hp (by omega)
      have e : m1.1 78 (40 * s + t) = I t := by rw [x3.1 _ _ (by omega)]; exact hI t (by omega)
      rw [ftQ_st _ (show t < 8 by omega)]
      by_cases q : I t = nI (worA cd r G p t)
      · have hb : foP cd r G I p t = false := by unfold foP; simp [q]
        obtain ⟨m2, y1, y3⟩ := ih (t + 1) m1 (by omega) (by omega) (FrA_re x3 hE) (FrA_rr x3 hR) (fun u hu => by rw [x3.1 _ _ (by omega)]; exact hI u hu)
        rw [hb]
        have q' : (nI (worA cd r G p t) = I t) = True := eq_true q.symm
        simp (disch := omega) only [leT, leF, ltT, ltF, eqT, eqF, inT, n_cl, nI_add, pk_mul, n_div, pk_sub, md8, md2, or_true, true_or, or_false, false_or, Bool.true_eq_false, Bool.false_eq_true, L0, L1, L2, L3, L4, L5, L6, L7, L8, L9, L10, L20, L31, L40, L64, L99, L100, L255, L256, L999, L1000, L99999, ↓reduceIte, L11, L12, L13, L14, L15, L16, L30, L48, L160, K1, K2, K3, K4, K5, K7, K8, K9, K15, K17, K20, K27, K37, K48, K99, K255, inR, isPlace_r, isPlace_c, isSheet_r, x1, bi, e, q']
        exact ⟨m2, y1, FrA_t x3 y3⟩
      · have hb : foP cd r G I p t = true := by unfold foP; simp [q]
        rw [hb]
        have q' : (nI (worA cd r G p t) = I t) = False := eq_false (fun y => q y.symm)
        have hn9 : nbI t = nI t := by unfold nbI; rw [if_neg (by omega)]
        simp (disch := omega) only [leT, leF, ltT, ltF, eqT, eqF, inT, n_cl, nI_add, pk_mul, n_div, pk_sub, md8, md2, or_true, true_or, or_false, false_or, Bool.true_eq_false, Bool.false_eq_true, L0, L1, L2, L3, L4, L5, L6, L7, L8, L9, L10, L20, L31, L40, L64, L99, L100, L255, L256, L999, L1000, L99999, ↓reduceIte, L11, L12, L13, L14, L15, L16, L30, L48, L160, K1, K2, K3, K4, K5, K7, K8, K9, K15, K17, K20, K27, K37, K48, K99, K255, inR, isPlace_r, isPlace_c, isSheet_r, x1, bi, e, q']
        exact ⟨m1, by rw [hn9], x3⟩
theorem foV_le : foV cd r G I p ≤ 9 := by
  have := ftQ_is (foP cd r G I p) 8 (by decide)
  unfold foV; omega
theorem or0 (x : Int32) (v : Nat) : x ||| (nI 0 <<< (nI v &&& nI 31)) = x := by
  rw [show nI 0 <<< (nI v &&& nI 31) = (0 : Int32) from Int32.zero_shiftLeft]; exact Int32.or_zero
theorem like_r (hG : GO nt R G) (hs : s < 4) (hQ : ∀ i, i < G 0 0 → Q i = decide (foV cd r G I i = 9)) : ∀ n i m, i ≤ G 0 0 → G 0 0 - i < n → RE cd r nt m → RR m G → (∀ u, u < 8 → m.1 78 (40 * s + u) = I u) → ∃ m', X10_likeSet_4 n (nI s) (cbS Q i) (nI i) m = some (cbS Q (G 0 0), m') ∧ FrA m m' := by
  have g0 := hG.1
  intro n
  induction n with
  | zero => intro t m _ h; omega
  | succ n ih =>
    intro i m hi hn hE hR hI
    have s0 := hR.1
    rw [X10_likeSet_4]
    by_cases h8 : i = G 0 0
    · simp (disch := omega) only [leT, leF, ltT, ltF, eqT, eqF, inT, n_cl, nI_add, pk_mul, n_div, pk_sub, md8, md2, or_true, true_or, or_false, false_or, Bool.true_eq_false, Bool.false_eq_true, L0, L1, L2, L3, L4, L5, L6, L7, L8, L9, L10, L20, L31, L40, L64, L99, L100, L255, L256, L999, L1000, L99999, ↓reduceIte, L11, L12, L13, L14, L15, L16, L30, L48, L160, K1, K2, K3, K4, K5, K7, K8, K9, K15, K17, K20, K27, K37, K48, K99, K255, inR, isPlace_r, isPlace_c, isSheet_r, s0, h8]
      exact ⟨m, rfl, FrA_r m⟩
    · obtain ⟨m1, x1, x2⟩ := fo_r (cd := cd) (r := r) (I := I) (p := i) hG (by omega) hs 10000 0 m (by decide) (by decide) hE hR hI
      have x1' : X10_firstOther (nI s) (nI i) m = some (nbI (foV cd r G I i), m1) := x1
      have hE9 := nbI_e (foV_le (cd := cd) (r := r) (G := G) (I := I) (p := i))
      obtain ⟨m2, y1, y2⟩ := ih (i + 1) m1 (by omega) (by omega) (FrA_re x2 hE) (FrA_rr x2 hR) (fun u hu => by rw [x2.1 _ _ (by omega)]; exact hI u hu)
      rw [cbS, hQ i (by omega)] at y1
      by_cases q : foV cd r G I i = 9
      · rw [decide_eq_true q, if_pos rfl] at y1
        simp (disch := omega) only [leT, leF, ltT, ltF, eqT, eqF, inT, n_cl, nI_add, pk_mul, n_div, pk_sub, md8, md2, or_true, true_or, or_false, false_or, Bool.true_eq_false, Bool.false_eq_true, L0, L1, L2, L3, L4, L5, L6, L7, L8, L9, L10, L20, L31, L40, L64, L99, L100, L255, L256, L999, L1000, L99999, ↓reduceIte, L11, L12, L13, L14, L15, L16, L30, L48, L160, K1, K2, K3, K4, K5, K7, K8, K9, K15, K17, K20, K27, K37, K48, K99, K255, inR, isPlace_r, isPlace_c, isSheet_r, s0, x1', bi, hE9, q, X10_likeSet_28]
        exact ⟨m2, y1, FrA_t x2 y2⟩
      · rw [decide_eq_false q, if_neg (by decide)] at y1
        simp (disch := omega) only [leT, leF, ltT, ltF, eqT, eqF, inT, n_cl, nI_add, pk_mul, n_div, pk_sub, md8, md2, or_true, true_or, or_false, false_or, Bool.true_eq_false, Bool.false_eq_true, L0, L1, L2, L3, L4, L5, L6, L7, L8, L9, L10, L20, L31, L40, L64, L99, L100, L255, L256, L999, L1000, L99999, ↓reduceIte, L11, L12, L13, L14, L15, L16, L30, L48, L160, K1, K2, K3, K4, K5, K7, K8, K9, K15, K17, K20, K27, K37, K48, K99, K255, inR, isPlace_r, isPlace_c, isSheet_r, s0, x1', bi, hE9, q, X10_likeSet_28, or0]
        exact ⟨m2, y1, FrA_t x2 y2⟩
/-- which row is tried, and where -/
def jW (w : Nat) : Nat := if w = 4 then 0 else w
def pW (w p : Nat) : Nat := if w = 4 then 2 else p
def cW (nt w : Nat) : Nat := if w = 1 then 6 else if w = 2 then 10 else if w = 3 then 8 else nt + 1
def sW (w : Nat) : Nat := if w = 1 then 5 else if w = 4 then 6 else w - 1
theorem cb122 (k24 : Int32 → Int32 → Int32 → Int32 → Int32 → Mem → Option (Int32 × Mem)) {v : Nat} {q : Nat} {C : Int32} (hs : s = 55 ∨ s = 57 ∨ s = 59 ∨ s = 61) (hG : GO nt 1019 Gc) (hq : q < 6) (hE : CE cd r nt z ve m) (hR : RF 23 m Gc) (hI : ∀ u, u < 8 → m.1 (s + 1) u = I u) (hQ : Q v = decide (foV cd r Gc I q = 9)) : ∃ m', X9_couldBe_122 nt z s k24 (nI p) (nI w) C (cbS Q v) (nI v) (nI q) m = k24 (nI p) (nI w) C (cbS Q (v + 1)) (nI (v + 1)) m' ∧ CE cd r nt z ve m' ∧ RF 23 m' Gc ∧ FrX m m' := by
  obtain ⟨m1, x1, x2, x3⟩ := fo_c (cd := cd) (r := r) (z := z) (ve := ve) (I := I) (p := q) hG fo23 hq hs 10000 0 m (by decide) (by decide) hE hR hI
  have x1' : X9_firstOtherwise nt z s 23 (nI q) m = some (nbI (foV cd r Gc I q), m1) := x1
  have hE9 := nbI_e (foV_le (cd := cd) (r := r) (G := Gc) (I := I) (p := q))
  unfold X9_couldBe_122 X9_couldBe_146
  rw [cbS, hQ]
  by_cases y : foV cd r Gc I q = 9
  · rw [decide_eq_true y, if_pos rfl]
    simp (disch := omega) only [leT, leF, ltT, ltF, eqT, eqF, inT, n_cl, nI_add, pk_mul, n_div, pk_sub, md8, md2, or_true, true_or, or_false, false_or, Bool.true_eq_false, Bool.false_eq_true, L0, L1, L2, L3, L4, L5, L6, L7, L8, L9, L10, L20, L31, L40, L64, L99, L100, L255, L256, L999, L1000, L99999, ↓reduceIte, L11, L12, L13, L14, L15, L16, L30, L48, L160, K1, K2, K3, K4, K5, K7, K8, K9, K15, K17, K20, K27, K37, K48, K99, K255, inR, isPlace_r, isPlace_c, isSheet_r, x1', bi, hE9, y]
    exact ⟨m1, rfl, x2, FrX_f fo23 x3 hR, x3⟩
  · rw [decide_eq_false y, if_neg (by decide)]
    simp (disch := omega) only [leT, leF, ltT, ltF, eqT, eqF, inT, n_cl, nI_add, pk_mul, n_div, pk_sub, md8, md2, or_true, true_or, or_false, false_or, Bool.true_eq_false, Bool.false_eq_true, L0, L1, L2, L3, L4, L5, L6, L7, L8, L9, L10, L20, L31, L40, L64, L99, L100, L255, L256, L999, L1000, L99999, ↓reduceIte, L11, L12, L13, L14, L15, L16, L30, L48, L160, K1, K2, K3, K4, K5, K7, K8, K9, K15, K17, K20, K27, K37, K48, K99, K255, inR, isPlace_r, isPlace_c, isSheet_r, x1', bi, hE9, y]
    exact ⟨m1, rfl, x2, FrX_f fo23 x3 hR, x3⟩
theorem cb_c (hs : s = 55 ∨ s = 57 ∨ s = 59 ∨ s = 61) (hG : GO nt 999 G) (hnt : nt ≤ 5) (hp : p < 6) (hw1 : 1 ≤ w) (hw : w ≤ 4) (hQ : ∀ v, v < cW nt w → Q v = decide (foV cd r (gU G (jW w) (pW w p) v) I p = 9)) : ∀ n v m Gc, v ≤ cW nt w → cW nt w - v < n → CE cd r nt z ve m → RF 23 m Gc → (∀ a, gU Gc (jW w) (pW w p) a = gU G (jW w) (pW w p) a) → (∀ u, u < 8 → m.1 (s + 1) u = I u) → ∃ m', X9_couldBe_24 nt z s n (nI p) (nI w) (nI (cW nt w)) (cbS Q v) (nI v) m = some (cbS Q (cW nt w), m') ∧ CE cd r nt z ve m' ∧ SF m m' := by
  have hC : cW nt w ≤ 10 := by unfold cW; split; omega; split; omega; split <;> omega
  intro n
  induction n with
  | zero => intro v m Gc _ h; omega
  | succ n ih =>
    intro v m Gc hv hn hE hR hg hI
    rw [X9_couldBe_24]
    by_cases h8 : v = cW nt w
    · simp (disch := omega) only [leT, leF, ltT, ltF, eqT, eqF, inT, n_cl, nI_add, pk_mul, n_div, pk_sub, md8, md2, or_true, true_or, or_false, false_or, Bool.true_eq_false, Bool.false_eq_true, L0, L1, L2, L3, L4, L5, L6, L7, L8, L9, L10, L20, L31, L40, L64, L99, L100, L255, L256, L999, L1000, L99999, ↓reduceIte, L11, L12, L13, L14, L15, L16, L30, L48, L160, K1, K2, K3, K4, K5, K7, K8, K9, K15, K17, K20, K27, K37, K48, K99, K255, inR, isPlace_r, isPlace_c, isSheet_r, h8]
      exact ⟨m, rfl, hE, SF_r m⟩
    · have hmx : v ≤ mxG nt 999 (jW w) (pW w p) := by
        unfold cW at hv h8
        unfold mxG jW pW
        rcases (show w = 1 ∨ w = 2 ∨ w = 3 ∨ w = 4 by omega) with rfl | rfl | rfl | rfl <;> simp at hv h8 ⊢ <;> omega
      have hG2 : GO nt 1019 (gU G (jW w) (pW w p) v) := GO_up (by decide) (GO_u hmx hG)
      have R2 : RF 23 (pI m (23 + jW w) (pW w p) (nI v)) (gU G (jW w) (pW w p) v) := by
        rw [← hg v]
        by_cases w4 : w = 4
        · subst w4; exact RF_u0 hR
        · unfold jW; rw [if_neg w4]; exact RF_u hw1 hR
      have hj : jW w ≤ 3 := by unfold jW; split <;> omega
      have E2 : CE cd r nt z ve (pI m (23 + jW w) (pW w p) (nI v)) := CE_g hE (fun x j h => by rw [rIn (by omega)]) (fun _ _ _ _ => rfl)
      obtain ⟨m1, x1, x2, x3, x4⟩ := cb122 (cd := cd) (r := r) (z := z) (ve := ve) (I := I) (Q := Q) (p := p) (w := w) (v := v) (q := p) (C := nI (cW nt w)) (X9_couldBe_24 nt z s n) hs hG2 hp E2 R2 (fun u hu => by rw [rIn (by omega)]; exact hI u hu) (hQ v (by omega))
      obtain ⟨m2, y1, y2, y3⟩ := ih (v + 1) m1 (gU G (jW w) (pW w p) v) (by omega) (by omega) x2 x3 (fun a => gU_g) (fun u hu => by rw [x4.1 _ _ (by omega) (by omega) (by omega), rIn (by omega)]; exact hI u hu)
      rw [y1] at x1
      have sf : SF m m2 := SF_t (fun x j _ _ _ h _ _ _ _ => by rw [rIn (by omega)]) (SF_t (SF_x x4) y3)
      refine ⟨m2, ?_, y2, sf⟩
      rw [← x1]
      unfold jW pW
      rcases (show w = 1 ∨ w = 2 ∨ w = 3 ∨ w = 4 by omega) with h | h | h | h
      all_goals simp (disch := omega) only [leT, leF, ltT, ltF, eqT, eqF, inT, n_cl, nI_add, pk_mul, n_div, pk_sub, md8, md2, or_true, true_or, or_false, false_or, Bool.true_eq_false, Bool.false_eq_true, L0, L1, L2, L3, L4, L5, L6, L7, L8, L9, L10, L20, L31, L40, L64, L99, L100, L255, L256, L999, L1000, L99999, ↓reduceIte, L11, L12, L13, L14, L15, L16, L30, L48, L160, K1, K2, K3, K4, K5, K7, K8, K9, K15, K17, K20, K27, K37, K48, K99, K255, inR, isPlace_r, isPlace_c, isSheet_r, show ¬ (w = 4) ↔ w ≠ 4 from Iff.rfl]
      all_goals (first | (rw [if_neg (by omega), if_neg (by omega), h]) | (rw [if_pos h, if_pos h]))
theorem cb5_c (hs : s = 55 ∨ s = 57 ∨ s = 59 ∨ s = 61) (hG : GO nt 999 G) (hw : w = 5) (hQ : ∀ v, v < G 0 0 → Q v = decide (foV cd r G I v = 9)) : ∀ n v m, v ≤ G 0 0 → G 0 0 - v < n → CE cd r nt z ve m → RF 23 m G → (∀ u, u < 8 → m.1 (s + 1) u = I u) → ∃ m', X9_couldBe_24 nt z s n (nI p) (nI w) (nI (G 0 0)) (cbS Q v) (nI v) m = some (cbS Q (G 0 0), m') ∧ CE cd r nt z ve m' ∧ SF m m' := by
  have g0 := hG.1
  intro n
  induction n with
  | zero => intro v m _ h; omega
  | succ n ih =>
    intro v m hv hn hE hR hI
    rw [X9_couldBe_24]
    by_cases h8 : v = G 0 0
    · simp (disch := omega) only [leT, leF, ltT, ltF, eqT, eqF, inT, n_cl, nI_add, pk_mul, n_div, pk_sub, md8, md2, or_true, true_or, or_false, false_or, Bool.true_eq_false, Bool.false_eq_true, L0, L1, L2, L3, L4, L5, L6, L7, L8, L9, L10, L20, L31, L40, L64, L99, L100, L255, L256, L999, L1000, L99999, ↓reduceIte, L11, L12, L13, L14, L15, L16, L30, L48, L160, K1, K2, K3, K4, K5, K7, K8, K9, K15, K17, K20, K27, K37, K48, K99, K255, inR, isPlace_r, isPlace_c, isSheet_r, h8]
      exact ⟨m, rfl, hE, SF_r m⟩
    · obtain ⟨m1, x1, x2, x3, x4⟩ := cb122 (cd := cd) (r := r) (z := z) (ve := ve) (I := I) (Q := Q) (p := p) (w := w) (v := v) (q := v) (C := nI (G 0 0)) (X9_couldBe_24 nt z s n) hs (GO_up (by decide) hG) (by omega) hE hR hI (hQ v (by omega))
      obtain ⟨m2, y1, y2, y3⟩ := ih (v + 1) m1 (by omega) (by omega) x2 x3 (fun u hu => by rw [x4.1 _ _ (by omega) (by omega) (by omega)]; exact hI u hu)
      rw [y1] at x1
      simp (disch := omega) only [leT, leF, ltT, ltF, eqT, eqF, inT, n_cl, nI_add, pk_mul, n_div, pk_sub, md8, md2, or_true, true_or, or_false, false_or, Bool.true_eq_false, Bool.false_eq_true, L0, L1, L2, L3, L4, L5, L6, L7, L8, L9, L10, L20, L31, L40, L64, L99, L100, L255, L256, L999, L1000, L99999, ↓reduceIte, L11, L12, L13, L14, L15, L16, L30, L48, L160, K1, K2, K3, K4, K5, K7, K8, K9, K15, K17, K20, K27, K37, K48, K99, K255, inR, isPlace_r, isPlace_c, isSheet_r]
      exact ⟨m2, x1, y2, SF_t (SF_x x4) y3⟩
end
