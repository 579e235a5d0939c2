/-! calls: told, set -/
theorem K10 : (10 : Int64) = lN 10 := rfl
theorem K30 : (30 : Int64) = lN 30 := rfl
theorem in_v {w a b : Nat} (hw : w < 2147483648) (ha : a < 1000000) (hb : b < 1000000) (m : Mem) : X10_in (nI w).toInt64 (lN a) (lN b) m = some (if a ≤ w ∧ w ≤ b then 1 else 0, m) := by
  rw [in_s]
  congr 2
  have e1 : ((nI w).toInt64).toInt = w := by rw [Int32.toInt_toInt64]; exact nI_toInt hw
  have e2 : (lN a).toInt = a := pk_lT (by omega)
  have e3 : (lN b).toInt = b := pk_lT (by omega)
  rw [e1, e2, e3]
  by_cases h : a ≤ w ∧ w ≤ b
  · rw [if_pos h, if_pos (by omega)]
  · rw [if_neg h, if_neg (by omega)]
theorem inAt {w a b : Nat} (h1 : a ≤ w) (h2 : w ≤ b) (hb : b < 1000000) (m : Mem) : X10_in (nI w).toInt64 (lN a) (lN b) m = some (nI 1, m) := by
  rw [in_v (by omega) (by omega) hb, if_pos ⟨h1, h2⟩]; rfl
theorem inAf {w a b : Nat} (h1 : w < a) (ha : a < 1000000) (hb : b < 1000000) (m : Mem) : X10_in (nI w).toInt64 (lN a) (lN b) m = some (nI 0, m) := by
  rw [in_v (by omega) ha hb, if_neg (by omega)]; rfl
theorem inAg {w a b : Nat} (h1 : b < w) (hw : w < 2147483648) (ha : a < 1000000) (hb : b < 1000000) (m : Mem) : X10_in (nI w).toInt64 (lN a) (lN b) m = some (nI 0, m) := by
  rw [in_v hw ha hb, if_neg (by omega)]; rfl
theorem inNg {x : Int32} (h : x < nI 0) {a b : Nat} (ha : a < 1000000) (hb : b < 1000000) (m : Mem) : X10_in x.toInt64 (lN a) (lN b) m = some (nI 0, m) := by
  rw [in_s]
  have h' := Int32.lt_iff_toInt_lt.mp h
  have e1 : (x.toInt64).toInt = x.toInt := Int32.toInt_toInt64 x
  have e2 : (lN a).toInt = a := pk_lT (by omega)
  rw [show (nI 0).toInt = 0 from rfl] at h'
  rw [e1, e2, if_neg (by omega)]; rfl
def hoL (G : Fo) (p : Nat) : Nat → Int32
  | 0 => nI 0
  | b + 1 => if b = p then hoL G p b else hoL G p b ||| nI (G 4 b)
section
variable {nt f R p N : Nat} {m : Mem} {G : Fo}
theorem any_c (hf : isFo f) (hR : RF f m G) (h6 : G 0 0 ≤ 6) (hp : p ≤ 9) : ∀ n b, b ≤ G 0 0 → G 0 0 - b < n → X0_knownByAny_4 f n (nbI p) (hoL G p b) (nI b) m = some (hoL G p (G 0 0), m) := by
  intro n
  induction n with
  | zero => intro b _ h; omega
  | succ n ih =>
    intro b hb hn
    have s0 := hR.1 0 (by decide)
    rw [X0_knownByAny_4]
    by_cases h8 : b = G 0 0
    · simp (disch := omega) only [leT, leF, ltT, ltF, eqT, eqF, inT, n_cl, nI_add, pk_mul, n_div, pk_sub, md8, md2, or_true, true_or, or_false, false_or, Bool.true_eq_false, Bool.false_eq_true, L0, L1, L2, L3, L4, L5, L6, L7, L8, L9, L10, L20, L31, L40, L64, L99, L100, L255, L256, L999, L1000, L99999, ↓reduceIte, s0, h8]
    · have s4 := hR.2 4 b (by decide) (by decide) (by omega)
      have hi := ih (b + 1) (by omega) (by omega)
      rw [hoL] at hi
      by_cases q : b = p
      · have w2 : (nI b = nbI p) = True := eq_true ((nbI_q (by omega) hp).mpr q)
        rw [if_pos q] at hi
        simp (disch := omega) only [leT, leF, ltT, ltF, eqT, eqF, inT, n_cl, nI_add, pk_mul, n_div, pk_sub, md8, md2, or_true, true_or, or_false, false_or, Bool.true_eq_false, Bool.false_eq_true, L0, L1, L2, L3, L4, L5, L6, L7, L8, L9, L10, L20, L31, L40, L64, L99, L100, L255, L256, L999, L1000, L99999, ↓reduceIte, s0, w2, X0_knownByAny_26]
        exact hi
      · rw [if_neg q] at hi
        simp (disch := omega) only [leT, leF, ltT, ltF, eqT, eqF, inT, n_cl, nI_add, pk_mul, n_div, pk_sub, md8, md2, or_true, true_or, or_false, false_or, Bool.true_eq_false, Bool.false_eq_true, L0, L1, L2, L3, L4, L5, L6, L7, L8, L9, L10, L20, L31, L40, L64, L99, L100, L255, L256, L999, L1000, L99999, ↓reduceIte, s0, nbI_q (show b < 6 by omega) hp, q, X0_knownByAny_26, s4]
        exact hi
theorem hoard_c (hf : isFo f) (hR : RF f m G) (h6 : G 0 0 ≤ 6) (hp : p < 6) : X0_hoard f (nI p) m = some (nI (G 4 p) &&& (hoL G p (G 0 0) ^^^ -nI 1), m) := by
  have s4 := hR.2 4 p (by decide) (by decide) hp
  have h := any_c hf hR h6 (p := p) (by omega) 10000 0 (Nat.zero_le _) (by omega)
  have e : nbI p = nI p := by unfold nbI; rw [if_neg (by omega)]
  rw [e] at h
  unfold X0_hoard X0_knownByAny
  simp (disch := omega) only [leT, leF, ltT, ltF, eqT, eqF, inT, n_cl, nI_add, pk_mul, n_div, pk_sub, md8, md2, or_true, true_or, or_false, false_or, Bool.true_eq_false, Bool.false_eq_true, L0, L1, L2, L3, L4, L5, L6, L7, L8, L9, L10, L20, L31, L40, L64, L99, L100, L255, L256, L999, L1000, L99999, ↓reduceIte, s4]
  rw [show X0_knownByAny_4 f 10000 (nI p) (nI 0) (nI 0) m = some (hoL G p (G 0 0), m) from h]
  rfl
theorem hoL_r (hR : RR m G) (h6 : G 0 0 ≤ 6) (hp : p < 6) : ∀ n b, b ≤ G 0 0 → G 0 0 - b < n → X10_hoardOf_4 n (nI p) (hoL G p b) (nI b) m = some (nI (G 4 p) &&& (hoL G p (G 0 0) ^^^ -nI 1), m) := by
  intro n
  induction n with
  | zero => intro b _ h; omega
  | succ n ih =>
    intro b hb hn
    have s0 := hR.1
    have kp := knows_r hp m
    have s4p := (hR.2.2.2.1 p hp).2.2.1
    rw [X10_hoardOf_4]
    by_cases h8 : b = G 0 0
    · simp (disch := omega) only [leT, leF, ltT, ltF, eqT, eqF, inT, n_cl, nI_add, pk_mul, n_div, pk_sub, md8, md2, or_true, true_or, or_false, false_or, Bool.true_eq_false, Bool.false_eq_true, L0, L1, L2, L3, L4, L5, L6, L7, L8, L9, L10, L20, L31, L40, L64, L99, L100, L255, L256, L999, L1000, L99999, ↓reduceIte, s0, h8, kp, bi, s4p]
    · have kb := knows_r (show b < 6 by omega) m
      have s4 := (hR.2.2.2.1 b (by omega)).2.2.1
      have hi := ih (b + 1) (by omega) (by omega)
      rw [hoL] at hi
      by_cases q : b = p
      · rw [if_pos q] at hi
        have o0 : hoL G p b ||| nI 0 = hoL G p b := Int32.or_zero
        simp (disch := omega) only [leT, leF, ltT, ltF, eqT, eqF, inT, n_cl, nI_add, pk_mul, n_div, pk_sub, md8, md2, or_true, true_or, or_false, false_or, Bool.true_eq_false, Bool.false_eq_true, L0, L1, L2, L3, L4, L5, L6, L7, L8, L9, L10, L20, L31, L40, L64, L99, L100, L255, L256, L999, L1000, L99999, ↓reduceIte, s0, X10_hoardOf_27, o0]
        exact hi
      · rw [if_neg q] at hi
        simp (disch := omega) only [leT, leF, ltT, ltF, eqT, eqF, inT, n_cl, nI_add, pk_mul, n_div, pk_sub, md8, md2, or_true, true_or, or_false, false_or, Bool.true_eq_false, Bool.false_eq_true, L0, L1, L2, L3, L4, L5, L6, L7, L8, L9, L10, L20, L31, L40, L64, L99, L100, L255, L256, L999, L1000, L99999, ↓reduceIte, s0, X10_hoardOf_27, kb, bi, s4]
        exact hi
theorem hoard_r (hR : RR m G) (h6 : G 0 0 ≤ 6) (hp : p < 6) : X10_hoardOf (nI p) m = some (nI (G 4 p) &&& (hoL G p (G 0 0) ^^^ -nI 1), m) := hoL_r hR h6 hp 10000 0 (Nat.zero_le _) (by omega)
/-- the rows as told -/
def rwN (w : Nat) : Nat := if w = 5 then 1 else if w = 6 then 6 else w + 1
theorem row_v {w : Nat} (h1 : 1 ≤ w) (h2 : w ≤ 6) (m : Mem) : X0_row f (nI w) m = some (some (f + rwN w), m) := by
  unfold X0_row rwN
  rcases (show w = 1 ∨ w = 2 ∨ w = 3 ∨ w = 4 ∨ w = 5 ∨ w = 6 by omega) with rfl | rfl | rfl | rfl | rfl | rfl
  all_goals simp (disch := omega) only [leT, leF, ltT, ltF, eqT, eqF, inT, n_cl, nI_add, pk_mul, n_div, pk_sub, md8, md2, or_true, true_or, or_false, false_or, Bool.true_eq_false, Bool.false_eq_true, L0, L1, L2, L3, L4, L5, L6, L7, L8, L9, L10, L20, L31, L40, L64, L99, L100, L255, L256, L999, L1000, L99999, ↓reduceIte, Bool.and_true, Bool.true_and, Bool.false_and, Bool.and_false, Bool.or_true, Bool.true_or, Bool.or_false, Bool.false_or, Bool.not_true, Bool.not_false, show ¬ (1 = 0) by decide, show ¬ (2 = 0) by decide, show ¬ (3 = 0) by decide, show ¬ (4 = 0) by decide, show ¬ (5 = 0) by decide, show ¬ (2 = 1) by decide, show ¬ (3 = 1) by decide, show ¬ (4 = 1) by decide, show ¬ (5 = 1) by decide, show ¬ (3 = 2) by decide, show ¬ (4 = 2) by decide, show ¬ (5 = 2) by decide, show ¬ (4 = 3) by decide, show ¬ (5 = 3) by decide, show ¬ (5 = 4) by decide, show ¬ (1 = 5) by decide, show ¬ (2 = 5) by decide, show ¬ (3 = 5) by decide, show ¬ (4 = 5) by decide, show ¬ (1 = 6) by decide, show ¬ (2 = 6) by decide, show ¬ (3 = 6) by decide, show ¬ (4 = 6) by decide, show ¬ (6 = 5) by decide]
theorem told_r {w : Nat} (hR : RR m G) (hG : GO nt R G) (h1 : 1 ≤ w) (h2 : w ≤ 6) (hp : p < G 0 0) : X10_told (nI p) (nI w) m = some (nI (G (rwN w) p), m) := by
  have g0 := hG.1
  have pr := fun x => isOne_r g0 x m hR.1
  obtain ⟨s2, s3, s4, s5, s6⟩ := hR.2.2.2.1 p (by omega)
  have k1 := hR.2.2.2.2 p hp
  unfold X10_told X10_told_47 X10_told_64 X10_told_79
  rcases (show w = 1 ∨ w = 2 ∨ w = 3 ∨ w = 4 ∨ w = 5 ∨ w = 6 by omega) with rfl | rfl | rfl | rfl | rfl | rfl
  all_goals simp (disch := omega) only [leT, leF, ltT, ltF, eqT, eqF, inT, n_cl, nI_add, pk_mul, n_div, pk_sub, md8, md2, or_true, true_or, or_false, false_or, Bool.true_eq_false, Bool.false_eq_true, L0, L1, L2, L3, L4, L5, L6, L7, L8, L9, L10, L20, L31, L40, L64, L99, L100, L255, L256, L999, L1000, L99999, ↓reduceIte, L11, L12, L13, L14, L15, L16, L30, L48, L160, K1, K2, K3, K4, K5, K7, K8, K9, K15, K17, K20, K27, K37, K48, K99, K255, inR, isPlace_r, isPlace_c, isSheet_r, K10, K30, inAf, bi, pr, Nat.add_sub_cancel, s2, s3, s4, s5, s6, k1]
  · rfl
  · rw [show 5 * p + 2 - 1 = 5 * p + 1 by omega, s3]; rfl
  · rw [show 5 * p + 3 - 1 = 5 * p + 2 by omega, s4]; rfl
  · rw [show 5 * p + 4 - 1 = 5 * p + 3 by omega, s5]; rfl
  · rfl
  · rfl
theorem told0_r (hR : RR m G) (x : Int32) : X10_told x (nI 0) m = some (nI (G 0 1), m) := by
  have s := hR.2.1
  unfold X10_told X10_told_47 X10_told_64 X10_told_79
  simp (disch := omega) only [leT, leF, ltT, ltF, eqT, eqF, inT, n_cl, nI_add, pk_mul, n_div, pk_sub, md8, md2, or_true, true_or, or_false, false_or, Bool.true_eq_false, Bool.false_eq_true, L0, L1, L2, L3, L4, L5, L6, L7, L8, L9, L10, L20, L31, L40, L64, L99, L100, L255, L256, L999, L1000, L99999, ↓reduceIte, L11, L12, L13, L14, L15, L16, L30, L48, L160, K1, K2, K3, K4, K5, K7, K8, K9, K15, K17, K20, K27, K37, K48, K99, K255, inR, isPlace_r, isPlace_c, isSheet_r, K10, K30, inAf, bi, s]
end
theorem o_set : ob_set Iv := by
  rintro c nt z m a1 a2 a3 hc ⟨cd, r, rk, G, H, tp, n, ve, hv, hE, hW⟩
  have hW0 := hW
  obtain ⟨w1, w2, w3, w4, w5, w6, w7, w8⟩ := hW
  have g0 := w4.1
  have pc := fun x => isPerson_c g0 x m (w2.1 0 (by decide))
  have pr := fun x => isOne_r g0 x m w3.1
  have bad : Iv (c + 1) nt z m := Iv_0 hv hE hW0
  have s1 := w2.1 1 (by decide)
  have s1' := w3.2.1
  rcases dich a1 5 (by decide) with ⟨w, hw, rfl⟩ | ⟨d0, d1 | ⟨d1, d2, d3, d4⟩⟩
  · by_cases hw0 : w = 0
    · subst hw0
      unfold X9_set X9_set_30 X10_set X10_set_24 X10_mostOf X10_lays
      have e9 : ([999, 9, 7, 255, 255] : List Int32).getD 0 (nI 0) = nI 999 := rfl
      have il : (nI 999).toInt64 = lN 999 := nI_l (by decide)
      rcases dich a3 1000 (by decide) with ⟨v, hv3, rfl⟩ | ⟨d0, d1 | ⟨d1, d2, d3, d4⟩⟩
      · have t0 := told0_r (m := pI m 5 1 (nI v)) (G := G) (RR_f (fun x j h => by rw [rIn (by omega)]) w3) a2
        simp (disch := omega) only [leT, leF, ltT, ltF, eqT, eqF, inT, n_cl, nI_add, pk_mul, n_div, pk_sub, md8, md2, or_true, true_or, or_false, false_or, Bool.true_eq_false, Bool.false_eq_true, L0, L1, L2, L3, L4, L5, L6, L7, L8, L9, L10, L20, L31, L40, L64, L99, L100, L255, L256, L999, L1000, L99999, ↓reduceIte, L11, L12, L13, L14, L15, L16, L30, L48, L160, K1, K2, K3, K4, K5, K7, K8, K9, K15, K17, K20, K27, K37, K48, K99, K255, inR, isPlace_r, isPlace_c, isSheet_r, s1]
        refine ⟨nI (G 0 1), pI m 5 1 (nI v), pI (pI m 5 1 (nI v)) 63 7 (nI v), ?_, ?_, cd, r, rk, gU G 0 1 v, H, tp, n, ve, by omega, CE_g hE (fun x j h => by rw [rIn (by omega), rIn (by omega)]) (fun _ _ _ _ => rfl), IW_fo hW0 (RF_rf fo5 (FRf_1 (by decide)) (RF_u0 w2)) (RR_u0 (.inl rfl) (RR_f (fun x j h => by rw [rIn (by omega)]) w3)) (GO_u (show v ≤ 999 by omega) w4) (by rw [gU_n (by omega)]; omega) (fun p _ => gU_n (by omega)) (fun x j h => ?_)⟩
        · rw [if_pos]
          show nI v ≤ nI 999
          exact nI_le (by omega) (by decide)
        · simp (disch := omega) only [leT, leF, ltT, ltF, eqT, eqF, inT, n_cl, nI_add, pk_mul, n_div, pk_sub, md8, md2, or_true, true_or, or_false, false_or, Bool.true_eq_false, Bool.false_eq_true, L0, L1, L2, L3, L4, L5, L6, L7, L8, L9, L10, L20, L31, L40, L64, L99, L100, L255, L256, L999, L1000, L99999, ↓reduceIte, L11, L12, L13, L14, L15, L16, L30, L48, L160, K1, K2, K3, K4, K5, K7, K8, K9, K15, K17, K20, K27, K37, K48, K99, K255, inR, isPlace_r, isPlace_c, isSheet_r, bi, bv, il, t0]
        · unfold DuO at h
          rw [rIn (by omega), rIn (by omega)]
      · simp (disch := omega) only [leT, leF, ltT, ltF, eqT, eqF, inT, n_cl, nI_add, pk_mul, n_div, pk_sub, md8, md2, or_true, true_or, or_false, false_or, Bool.true_eq_false, Bool.false_eq_true, L0, L1, L2, L3, L4, L5, L6, L7, L8, L9, L10, L20, L31, L40, L64, L99, L100, L255, L256, L999, L1000, L99999, ↓reduceIte, L11, L12, L13, L14, L15, L16, L30, L48, L160, K1, K2, K3, K4, K5, K7, K8, K9, K15, K17, K20, K27, K37, K48, K99, K255, inR, isPlace_r, isPlace_c, isSheet_r, d1]
        exact ⟨_, _, _, rfl, by simp (disch := omega) only [leT, leF, ltT, ltF, eqT, eqF, inT, n_cl, nI_add, pk_mul, n_div, pk_sub, md8, md2, or_true, true_or, or_false, false_or, Bool.true_eq_false, Bool.false_eq_true, L0, L1, L2, L3, L4, L5, L6, L7, L8, L9, L10, L20, L31, L40, L64, L99, L100, L255, L256, L999, L1000, L99999, ↓reduceIte, L11, L12, L13, L14, L15, L16, L30, L48, L160, K1, K2, K3, K4, K5, K7, K8, K9, K15, K17, K20, K27, K37, K48, K99, K255, inR, isPlace_r, isPlace_c, isSheet_r, bi, il, d0], bad⟩
      · simp (disch := omega) only [leT, leF, ltT, ltF, eqT, eqF, inT, n_cl, nI_add, pk_mul, n_div, pk_sub, md8, md2, or_true, true_or, or_false, false_or, Bool.true_eq_false, Bool.false_eq_true, L0, L1, L2, L3, L4, L5, L6, L7, L8, L9, L10, L20, L31, L40, L64, L99, L100, L255, L256, L999, L1000, L99999, ↓reduceIte, L11, L12, L13, L14, L15, L16, L30, L48, L160, K1, K2, K3, K4, K5, K7, K8, K9, K15, K17, K20, K27, K37, K48, K99, K255, inR, isPlace_r, isPlace_c, isSheet_r, d1]
        have e : (a3 ≤ ([999, 9, 7, 255, 255] : List Int32).getD 0 0) = False := d4 999 (by decide)
        refine ⟨-nI 2, m, _, ?_, by simp (disch := omega) only [leT, leF, ltT, ltF, eqT, eqF, inT, n_cl, nI_add, pk_mul, n_div, pk_sub, md8, md2, or_true, true_or, or_false, false_or, Bool.true_eq_false, Bool.false_eq_true, L0, L1, L2, L3, L4, L5, L6, L7, L8, L9, L10, L20, L31, L40, L64, L99, L100, L255, L256, L999, L1000, L99999, ↓reduceIte, L11, L12, L13, L14, L15, L16, L30, L48, L160, K1, K2, K3, K4, K5, K7, K8, K9, K15, K17, K20, K27, K37, K48, K99, K255, inR, isPlace_r, isPlace_c, isSheet_r, bi, il, d0], bad⟩
        rw [if_neg]
        intro y
        rw [← e]; exact y
    · have hm : ∃ mx, mx ≤ 255 ∧ ([999, 9, 7, 255, 255] : List Int32).getD w 0 = nI mx ∧ (∀ m', X10_mostOf (nI w) m' = some (nI mx, m')) ∧ mx = mxG nt 999 (w + 1) 0 := by
        unfold X10_mostOf mxG
        rcases (show w = 1 ∨ w = 2 ∨ w = 3 ∨ w = 4 by omega) with rfl | rfl | rfl | rfl
        · exact ⟨9, by decide, rfl, fun m' => by simp (disch := omega) only [leT, leF, ltT, ltF, eqT, eqF, inT, n_cl, nI_add, pk_mul, n_div, pk_sub, md8, md2, or_true, true_or, or_false, false_or, Bool.true_eq_false, Bool.false_eq_true, L0, L1, L2, L3, L4, L5, L6, L7, L8, L9, L10, L20, L31, L40, L64, L99, L100, L255, L256, L999, L1000, L99999, ↓reduceIte, L11, L12, L13, L14, L15, L16, L30, L48, L160, K1, K2, K3, K4, K5, K7, K8, K9, K15, K17, K20, K27, K37, K48, K99, K255, inR, isPlace_r, isPlace_c, isSheet_r], rfl⟩
        · exact ⟨7, by decide, rfl, fun m' => by simp (disch := omega) only [leT, leF, ltT, ltF, eqT, eqF, inT, n_cl, nI_add, pk_mul, n_div, pk_sub, md8, md2, or_true, true_or, or_false, false_or, Bool.true_eq_false, Bool.false_eq_true, L0, L1, L2, L3, L4, L5, L6, L7, L8, L9, L10, L20, L31, L40, L64, L99, L100, L255, L256, L999, L1000, L99999, ↓reduceIte, L11, L12, L13, L14, L15, L16, L30, L48, L160, K1, K2, K3, K4, K5, K7, K8, K9, K15, K17, K20, K27, K37, K48, K99, K255, inR, isPlace_r, isPlace_c, isSheet_r], rfl⟩
        · exact ⟨255, by decide, rfl, fun m' => by simp (disch := omega) only [leT, leF, ltT, ltF, eqT, eqF, inT, n_cl, nI_add, pk_mul, n_div, pk_sub, md8, md2, or_true, true_or, or_false, false_or, Bool.true_eq_false, Bool.false_eq_true, L0, L1, L2, L3, L4, L5, L6, L7, L8, L9, L10, L20, L31, L40, L64, L99, L100, L255, L256, L999, L1000, L99999, ↓reduceIte, L11, L12, L13, L14, L15, L16, L30, L48, L160, K1, K2, K3, K4, K5, K7, K8, K9, K15, K17, K20, K27, K37, K48, K99, K255, inR, isPlace_r, isPlace_c, isSheet_r], rfl⟩
        · exact ⟨255, by decide, rfl, fun m' => by simp (disch := omega) only [leT, leF, ltT, ltF, eqT, eqF, inT, n_cl, nI_add, pk_mul, n_div, pk_sub, md8, md2, or_true, true_or, or_false, false_or, Bool.true_eq_false, Bool.false_eq_true, L0, L1, L2, L3, L4, L5, L6, L7, L8, L9, L10, L20, L31, L40, L64, L99, L100, L255, L256, L999, L1000, L99999, ↓reduceIte, L11, L12, L13, L14, L15, L16, L30, L48, L160, K1, K2, K3, K4, K5, K7, K8, K9, K15, K17, K20, K27, K37, K48, K99, K255, inR, isPlace_r, isPlace_c, isSheet_r], rfl⟩
      obtain ⟨mx, hmx, e9, em, emx⟩ := hm
      have il : (nI mx).toInt64 = lN mx := nI_l (by omega)
      have hrw : rwN w = w + 1 := by unfold rwN; rw [if_neg (by omega), if_neg (by omega)]
      unfold X9_set X9_set_30 X10_set X10_set_24 X10_lays
      rcases dich a2 (G 0 0) (by omega) with ⟨p, hp, rfl⟩ | d1
      · have hrv := row_v (f := 5) (w := w) (by omega) (by omega) m
        rcases dich a3 (mx + 1) (by omega) with ⟨v, hv3, rfl⟩ | ⟨d0, d1 | ⟨d1, d2, d3, d4⟩⟩
        · have c1 : (nI v ≤ ([999, 9, 7, 255, 255] : List Int32).getD w (nI 0)) = True := eq_true (by rw [show ([999, 9, 7, 255, 255] : List Int32).getD w (nI 0) = nI mx from e9]; exact nI_le (by omega) (by omega))
          simp only [L999, L9, L7, L255] at c1
          have sj := w2.2 (w + 1) p (by omega) (by omega) (by omega)
          have R1 : RR (pI m (5 + (w + 1)) p (nI v)) G := RR_f (fun x j h => by rw [rIn (by omega)]) w3
          have t0 := told_r (w := w) R1 w4 (by omega) (by omega) hp
          have pr1 := fun x => isOne_r g0 x (pI m (5 + (w + 1)) p (nI v)) R1.1
          rw [hrw] at hrv t0
          have hix : 5 * p + w - 1 = 5 * p + (w + 1 - 2) := by omega
          simp (disch := omega) only [leT, leF, ltT, ltF, eqT, eqF, inT, n_cl, nI_add, pk_mul, n_div, pk_sub, md8, md2, or_true, true_or, or_false, false_or, Bool.true_eq_false, Bool.false_eq_true, L0, L1, L2, L3, L4, L5, L6, L7, L8, L9, L10, L20, L31, L40, L64, L99, L100, L255, L256, L999, L1000, L99999, ↓reduceIte, L11, L12, L13, L14, L15, L16, L30, L48, L160, K1, K2, K3, K4, K5, K7, K8, K9, K15, K17, K20, K27, K37, K48, K99, K255, inR, isPlace_r, isPlace_c, isSheet_r, bi, pc, c1, hrv, bq, oq, sj]
          refine ⟨nI (G (w + 1) p), pI m (5 + (w + 1)) p (nI v), pI (pI m (5 + (w + 1)) p (nI v)) 69 (5 * p + (w + 1 - 2)) (nI v), rfl, ?_, cd, r, rk, gU G (w + 1) p v, H, tp, n, ve, by omega, CE_g hE (fun x j h => by rw [rIn (by omega), rIn (by omega)]) (fun _ _ _ _ => rfl), IW_fo hW0 (RF_rf fo5 (FRf_1 (by decide)) (RF_u (by omega) w2)) (RR_u (by omega) (by omega) R1) (GO_u ?_ w4) (by rw [gU_n (by omega)]; omega) (fun p _ => gU_n (by omega)) (fun x j h => ?_)⟩
          · simp (disch := omega) only [leT, leF, ltT, ltF, eqT, eqF, inT, n_cl, nI_add, pk_mul, n_div, pk_sub, md8, md2, or_true, true_or, or_false, false_or, Bool.true_eq_false, Bool.false_eq_true, L0, L1, L2, L3, L4, L5, L6, L7, L8, L9, L10, L20, L31, L40, L64, L99, L100, L255, L256, L999, L1000, L99999, ↓reduceIte, L11, L12, L13, L14, L15, L16, L30, L48, L160, K1, K2, K3, K4, K5, K7, K8, K9, K15, K17, K20, K27, K37, K48, K99, K255, inR, isPlace_r, isPlace_c, isSheet_r, bi, bv, pr1, em, il, t0, hix]
          · have : mxG nt 999 (w + 1) p = mxG nt 999 (w + 1) 0 := by simp only [mxG, show ¬ (w + 1 = 0) by omega, ↓reduceIte]
            omega
          · unfold DuO at h
            rw [rIn (by omega), rIn (by omega)]
        · simp (disch := omega) only [leT, leF, ltT, ltF, eqT, eqF, inT, n_cl, nI_add, pk_mul, n_div, pk_sub, md8, md2, or_true, true_or, or_false, false_or, Bool.true_eq_false, Bool.false_eq_true, L0, L1, L2, L3, L4, L5, L6, L7, L8, L9, L10, L20, L31, L40, L64, L99, L100, L255, L256, L999, L1000, L99999, ↓reduceIte, L11, L12, L13, L14, L15, L16, L30, L48, L160, K1, K2, K3, K4, K5, K7, K8, K9, K15, K17, K20, K27, K37, K48, K99, K255, inR, isPlace_r, isPlace_c, isSheet_r, bi, pc, d1]
          exact ⟨_, _, _, rfl, by simp (disch := omega) only [leT, leF, ltT, ltF, eqT, eqF, inT, n_cl, nI_add, pk_mul, n_div, pk_sub, md8, md2, or_true, true_or, or_false, false_or, Bool.true_eq_false, Bool.false_eq_true, L0, L1, L2, L3, L4, L5, L6, L7, L8, L9, L10, L20, L31, L40, L64, L99, L100, L255, L256, L999, L1000, L99999, ↓reduceIte, L11, L12, L13, L14, L15, L16, L30, L48, L160, K1, K2, K3, K4, K5, K7, K8, K9, K15, K17, K20, K27, K37, K48, K99, K255, inR, isPlace_r, isPlace_c, isSheet_r, bi, pr, em, il, d0], bad⟩
        · have c1 : (a3 ≤ ([999, 9, 7, 255, 255] : List Int32).getD w (nI 0)) = False := by rw [show ([999, 9, 7, 255, 255] : List Int32).getD w (nI 0) = nI mx from e9]; exact d4 mx (by omega)
          simp only [L999, L9, L7, L255] at c1
          simp (disch := omega) only [leT, leF, ltT, ltF, eqT, eqF, inT, n_cl, nI_add, pk_mul, n_div, pk_sub, md8, md2, or_true, true_or, or_false, false_or, Bool.true_eq_false, Bool.false_eq_true, L0, L1, L2, L3, L4, L5, L6, L7, L8, L9, L10, L20, L31, L40, L64, L99, L100, L255, L256, L999, L1000, L99999, ↓reduceIte, L11, L12, L13, L14, L15, L16, L30, L48, L160, K1, K2, K3, K4, K5, K7, K8, K9, K15, K17, K20, K27, K37, K48, K99, K255, inR, isPlace_r, isPlace_c, isSheet_r, bi, pc, d1, c1]
          exact ⟨_, _, _, rfl, by simp (disch := omega) only [leT, leF, ltT, ltF, eqT, eqF, inT, n_cl, nI_add, pk_mul, n_div, pk_sub, md8, md2, or_true, true_or, or_false, false_or, Bool.true_eq_false, Bool.false_eq_true, L0, L1, L2, L3, L4, L5, L6, L7, L8, L9, L10, L20, L31, L40, L64, L99, L100, L255, L256, L999, L1000, L99999, ↓reduceIte, L11, L12, L13, L14, L15, L16, L30, L48, L160, K1, K2, K3, K4, K5, K7, K8, K9, K15, K17, K20, K27, K37, K48, K99, K255, inR, isPlace_r, isPlace_c, isSheet_r, bi, pr, em, il, d0], bad⟩
      · simp (disch := omega) only [leT, leF, ltT, ltF, eqT, eqF, inT, n_cl, nI_add, pk_mul, n_div, pk_sub, md8, md2, or_true, true_or, or_false, false_or, Bool.true_eq_false, Bool.false_eq_true, L0, L1, L2, L3, L4, L5, L6, L7, L8, L9, L10, L20, L31, L40, L64, L99, L100, L255, L256, L999, L1000, L99999, ↓reduceIte, L11, L12, L13, L14, L15, L16, L30, L48, L160, K1, K2, K3, K4, K5, K7, K8, K9, K15, K17, K20, K27, K37, K48, K99, K255, inR, isPlace_r, isPlace_c, isSheet_r, bi, pc, d1.1]
        exact ⟨_, _, _, rfl, by simp (disch := omega) only [leT, leF, ltT, ltF, eqT, eqF, inT, n_cl, nI_add, pk_mul, n_div, pk_sub, md8, md2, or_true, true_or, or_false, false_or, Bool.true_eq_false, Bool.false_eq_true, L0, L1, L2, L3, L4, L5, L6, L7, L8, L9, L10, L20, L31, L40, L64, L99, L100, L255, L256, L999, L1000, L99999, ↓reduceIte, L11, L12, L13, L14, L15, L16, L30, L48, L160, K1, K2, K3, K4, K5, K7, K8, K9, K15, K17, K20, K27, K37, K48, K99, K255, inR, isPlace_r, isPlace_c, isSheet_r, bi, pr, d1.1], bad⟩
  · unfold X9_set X10_set
    simp (disch := omega) only [leT, leF, ltT, ltF, eqT, eqF, inT, n_cl, nI_add, pk_mul, n_div, pk_sub, md8, md2, or_true, true_or, or_false, false_or, Bool.true_eq_false, Bool.false_eq_true, L0, L1, L2, L3, L4, L5, L6, L7, L8, L9, L10, L20, L31, L40, L64, L99, L100, L255, L256, L999, L1000, L99999, ↓reduceIte, L11, L12, L13, L14, L15, L16, L30, L48, L160, K1, K2, K3, K4, K5, K7, K8, K9, K15, K17, K20, K27, K37, K48, K99, K255, inR, isPlace_r, isPlace_c, isSheet_r, d1]
    exact ⟨_, _, _, rfl, by simp (disch := omega) only [leT, leF, ltT, ltF, eqT, eqF, inT, n_cl, nI_add, pk_mul, n_div, pk_sub, md8, md2, or_true, true_or, or_false, false_or, Bool.true_eq_false, Bool.false_eq_true, L0, L1, L2, L3, L4, L5, L6, L7, L8, L9, L10, L20, L31, L40, L64, L99, L100, L255, L256, L999, L1000, L99999, ↓reduceIte, L11, L12, L13, L14, L15, L16, L30, L48, L160, K1, K2, K3, K4, K5, K7, K8, K9, K15, K17, K20, K27, K37, K48, K99, K255, inR, isPlace_r, isPlace_c, isSheet_r, bi, d0], bad⟩
  · unfold X9_set X10_set
    simp (disch := omega) only [leT, leF, ltT, ltF, eqT, eqF, inT, n_cl, nI_add, pk_mul, n_div, pk_sub, md8, md2, or_true, true_or, or_false, false_or, Bool.true_eq_false, Bool.false_eq_true, L0, L1, L2, L3, L4, L5, L6, L7, L8, L9, L10, L20, L31, L40, L64, L99, L100, L255, L256, L999, L1000, L99999, ↓reduceIte, L11, L12, L13, L14, L15, L16, L30, L48, L160, K1, K2, K3, K4, K5, K7, K8, K9, K15, K17, K20, K27, K37, K48, K99, K255, inR, isPlace_r, isPlace_c, isSheet_r, d1, d3]
    exact ⟨_, _, _, rfl, by simp (disch := omega) only [leT, leF, ltT, ltF, eqT, eqF, inT, n_cl, nI_add, pk_mul, n_div, pk_sub, md8, md2, or_true, true_or, or_false, false_or, Bool.true_eq_false, Bool.false_eq_true, L0, L1, L2, L3, L4, L5, L6, L7, L8, L9, L10, L20, L31, L40, L64, L99, L100, L255, L256, L999, L1000, L99999, ↓reduceIte, L11, L12, L13, L14, L15, L16, L30, L48, L160, K1, K2, K3, K4, K5, K7, K8, K9, K15, K17, K20, K27, K37, K48, K99, K255, inR, isPlace_r, isPlace_c, isSheet_r, bi, d0], bad⟩
