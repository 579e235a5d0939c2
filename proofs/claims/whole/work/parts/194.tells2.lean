/-! calls: tells, the reference -/
def FrV (m m' : Mem) : Prop := (∀ x j, ¬ (x = 63 ∧ (13 ≤ j ∧ j ≤ 27 ∨ j = 4)) → x ≠ 68 → x ≠ 69 → m'.1 x j = m.1 x j) ∧ ∀ x j, ¬ (x = 63 ∧ j = 24) → m'.2 x j = m.2 x j
theorem FrV_r (m : Mem) : FrV m m := ⟨fun _ _ _ _ _ => rfl, fun _ _ _ => rfl⟩
theorem FrV_t {a b d : Mem} (h : FrV a b) (g : FrV b d) : FrV a d := ⟨fun x j p q s => (g.1 x j p q s).trans (h.1 x j p q s), fun x j p => (g.2 x j p).trans (h.2 x j p)⟩
theorem FrV_a {m m' : Mem} (h : FrA m m') : FrV m m' := ⟨fun x j p q s => h.1 x j (by omega), h.2⟩
section
variable {c nt ve f R bu n w p t s N : Nat} {z : Nat → Nat} {m ma mb : Mem} {G Gc H : Fo} {cd : Nat → Cd} {r rk : Nat → Nat} {tp : Nat → Nat} {I : Nat → Int32} {Q : Nat → Bool}
theorem FrV_re (h : FrV m mb) (g : RE cd r nt m) : RE cd r nt mb := RE_f (fun x j q => h.1 x j (by omega) (by omega) (by omega)) g
theorem lays_r {v : Nat} (hp : p < 6) (hw1 : 1 ≤ w) (hw : w ≤ 4) (hR : RR m Gc) : ∃ m', X10_lays (nI (sW w)) (nI p) (nI v) m = some m' ∧ RR m' (gU Gc (jW w) (pW w p) v) ∧ FrV m m' := by
  unfold X10_lays
  rcases (show w = 1 ∨ w = 2 ∨ w = 3 ∨ w = 4 by omega) with h | h | h | h
  · have e : sW w = 5 := by unfold sW; rw [if_pos h]
    have e1 : jW w = 1 := by unfold jW; rw [if_neg (by omega), h]
    have e2 : pW w p = p := by unfold pW; rw [if_neg (by omega)]
    rw [e1, e2]
    generalize sW w = q at e
    simp (disch := omega) only [leT, leF, ltT, ltF, eqT, eqF, inT, n_cl, nI_add, pk_mul, n_div, pk_sub, md8, md2, or_true, true_or, or_false, false_or, Bool.true_eq_false, Bool.false_eq_true, L0, L1, L2, L3, L4, L5, L6, L7, L8, L9, L10, L20, L31, L40, L64, L99, L100, L255, L256, L999, L1000, L99999, ↓reduceIte, L11, L12, L13, L14, L15, L16, L30, L48, L160, K1, K2, K3, K4, K5, K7, K8, K9, K15, K17, K20, K27, K37, K48, K99, K255, inR, isPlace_r, isPlace_c, isSheet_r]
    exact ⟨_, rfl, RR_u1 hR, fun x j _ b _ => by rw [rIn (by omega)], fun _ _ _ => rfl⟩
  · have e : sW w = 1 := by unfold sW; rw [if_neg (by omega), if_neg (by omega), h]
    have e1 : jW w = 2 := by unfold jW; rw [if_neg (by omega), h]
    have e2 : pW w p = p := by unfold pW; rw [if_neg (by omega)]
    rw [e1, e2]
    generalize sW w = q at e
    have ei : 5 * p + q - 1 = 5 * p + (2 - 2) := by omega
    simp (disch := omega) only [leT, leF, ltT, ltF, eqT, eqF, inT, n_cl, nI_add, pk_mul, n_div, pk_sub, md8, md2, or_true, true_or, or_false, false_or, Bool.true_eq_false, Bool.false_eq_true, L0, L1, L2, L3, L4, L5, L6, L7, L8, L9, L10, L20, L31, L40, L64, L99, L100, L255, L256, L999, L1000, L99999, ↓reduceIte, L11, L12, L13, L14, L15, L16, L30, L48, L160, K1, K2, K3, K4, K5, K7, K8, K9, K15, K17, K20, K27, K37, K48, K99, K255, inR, isPlace_r, isPlace_c, isSheet_r, ei]
    exact ⟨_, rfl, RR_u (by decide) (by decide) hR, fun x j _ _ b => by rw [rIn (by omega)], fun _ _ _ => rfl⟩
  · have e : sW w = 2 := by unfold sW; rw [if_neg (by omega), if_neg (by omega), h]
    have e1 : jW w = 3 := by unfold jW; rw [if_neg (by omega), h]
    have e2 : pW w p = p := by unfold pW; rw [if_neg (by omega)]
    rw [e1, e2]
    generalize sW w = q at e
    have ei : 5 * p + q - 1 = 5 * p + (3 - 2) := by omega
    simp (disch := omega) only [leT, leF, ltT, ltF, eqT, eqF, inT, n_cl, nI_add, pk_mul, n_div, pk_sub, md8, md2, or_true, true_or, or_false, false_or, Bool.true_eq_false, Bool.false_eq_true, L0, L1, L2, L3, L4, L5, L6, L7, L8, L9, L10, L20, L31, L40, L64, L99, L100, L255, L256, L999, L1000, L99999, ↓reduceIte, L11, L12, L13, L14, L15, L16, L30, L48, L160, K1, K2, K3, K4, K5, K7, K8, K9, K15, K17, K20, K27, K37, K48, K99, K255, inR, isPlace_r, isPlace_c, isSheet_r, ei]
    exact ⟨_, rfl, RR_u (by decide) (by decide) hR, fun x j _ _ b => by rw [rIn (by omega)], fun _ _ _ => rfl⟩
  · have e : sW w = 6 := by unfold sW; rw [if_neg (by omega), if_pos h]
    have e1 : jW w = 0 := by unfold jW; rw [if_pos h]
    have e2 : pW w p = 2 := by unfold pW; rw [if_pos h]
    rw [e1, e2]
    generalize sW w = q at e
    simp (disch := omega) only [leT, leF, ltT, ltF, eqT, eqF, inT, n_cl, nI_add, pk_mul, n_div, pk_sub, md8, md2, or_true, true_or, or_false, false_or, Bool.true_eq_false, Bool.false_eq_true, L0, L1, L2, L3, L4, L5, L6, L7, L8, L9, L10, L20, L31, L40, L64, L99, L100, L255, L256, L999, L1000, L99999, ↓reduceIte, L11, L12, L13, L14, L15, L16, L30, L48, L160, K1, K2, K3, K4, K5, K7, K8, K9, K15, K17, K20, K27, K37, K48, K99, K255, inR, isPlace_r, isPlace_c, isSheet_r]
    exact ⟨_, rfl, RR_u0 (p := 2) (.inr rfl) hR, fun x j b _ _ => by rw [rIn (by omega)], fun _ _ _ => rfl⟩
theorem cb_r (hs : s < 4) (hG : GO nt 999 G) (hnt : nt ≤ 5) (hp : p < G 0 0) (hw1 : 1 ≤ w) (hw : w ≤ 4) (hQ : ∀ v, v < cW nt w → Q v = decide (foV cd r (gU G (jW w) (pW w p) v) I p = 9)) : ∀ n v m Gc, v ≤ cW nt w → cW nt w - v < n → RE cd r nt m → RR m Gc → (∀ a, gU Gc (jW w) (pW w p) a = gU G (jW w) (pW w p) a) → (∀ u, u < 8 → m.1 78 (40 * s + u) = I u) → ∃ m', X10_tells_170 n (nI s) (nI p) (nI (sW w)) (nI (G (jW w) (pW w p))) (nI (cW nt w - 1)) (cbS Q v) (nI v) m = some (cbS Q (cW nt w), m') ∧ RR m' G ∧ FrV m m' := by
  have g0 := hG.1
  have hC : 1 ≤ cW nt w ∧ cW nt w ≤ 10 := by unfold cW; split; omega; split; omega; split <;> omega
  intro n
  induction n with
  | zero => intro v m Gc _ h; omega
  | succ n ih =>
    intro v m Gc hv hn hE hR hg hI
    rw [X10_tells_170]
    by_cases h8 : v = cW nt w
    · obtain ⟨m1, x1, x2, x3⟩ := lays_r (v := G (jW w) (pW w p)) (show p < 6 by omega) hw1 hw hR
      rw [hg, gU_e] at x2
      rw [h8]
      simp (disch := omega) only [leT, leF, ltT, ltF, eqT, eqF, inT, n_cl, nI_add, pk_mul, n_div, pk_sub, md8, md2, or_true, true_or, or_false, false_or, Bool.true_eq_false, Bool.false_eq_true, L0, L1, L2, L3, L4, L5, L6, L7, L8, L9, L10, L20, L31, L40, L64, L99, L100, L255, L256, L999, L1000, L99999, ↓reduceIte, L11, L12, L13, L14, L15, L16, L30, L48, L160, K1, K2, K3, K4, K5, K7, K8, K9, K15, K17, K20, K27, K37, K48, K99, K255, inR, isPlace_r, isPlace_c, isSheet_r, x1, bv]
      exact ⟨m1, rfl, x2, x3⟩
    · have hmx : v ≤ mxG nt 999 (jW w) (pW w p) := by
        unfold cW at hv h8
        unfold mxG jW pW
        rcases (show w = 1 ∨ w = 2 ∨ w = 3 ∨ w = 4 by omega) with rfl | rfl | rfl | rfl <;> simp at hv h8 ⊢ <;> omega
      have hG2 : GO nt 999 (gU G (jW w) (pW w p) v) := GO_u hmx hG
      obtain ⟨m1, x1, x2, x3⟩ := lays_r (v := v) (show p < 6 by omega) hw1 hw hR
      rw [hg v] at x2
      have hn0 : gU G (jW w) (pW w p) v 0 0 = G 0 0 := by
        by_cases w4 : w = 4
        · subst w4; exact gU_n (.inr (by unfold pW; rw [if_pos rfl]; decide))
        · exact gU_n (.inl (by unfold jW; rw [if_neg w4]; omega))
      have hI1 : ∀ u, u < 8 → m1.1 78 (40 * s + u) = I u := fun u hu => by rw [x3.1 _ _ (by omega) (by omega) (by omega)]; exact hI u hu
      obtain ⟨m2, y1, y2⟩ := fo_r (cd := cd) (r := r) (I := I) (p := p) hG2 (by rw [hn0]; exact hp) hs 10000 0 m1 (by decide) (by decide) (FrV_re x3 hE) x2 hI1
      have y1' : X10_firstOther (nI s) (nI p) m1 = some (nbI (foV cd r (gU G (jW w) (pW w p) v) I p), m2) := y1
      have hE9 := nbI_e (foV_le (cd := cd) (r := r) (G := gU G (jW w) (pW w p) v) (I := I) (p := p))
      obtain ⟨m3, u1, u2, u3⟩ := ih (v + 1) m2 (gU G (jW w) (pW w p) v) (by omega) (by omega) (FrA_re y2 (FrV_re x3 hE)) (FrA_rr y2 x2) (fun a => gU_g) (fun u hu => by rw [y2.1 _ _ (by omega)]; exact hI1 u hu)
      rw [cbS, hQ v (by omega)] at u1
      have fr := FrV_t x3 (FrV_t (FrV_a y2) u3)
      by_cases q : foV cd r (gU G (jW w) (pW w p) v) I p = 9
      · rw [decide_eq_true q, if_pos rfl] at u1
        simp (disch := omega) only [leT, leF, ltT, ltF, eqT, eqF, inT, n_cl, nI_add, pk_mul, n_div, pk_sub, md8, md2, or_true, true_or, or_false, false_or, Bool.true_eq_false, Bool.false_eq_true, L0, L1, L2, L3, L4, L5, L6, L7, L8, L9, L10, L20, L31, L40, L64, L99, L100, L255, L256, L999, L1000, L99999, ↓reduceIte, L11, L12, L13, L14, L15, L16, L30, L48, L160, K1, K2, K3, K4, K5, K7, K8, K9, K15, K17, K20, K27, K37, K48, K99, K255, inR, isPlace_r, isPlace_c, isSheet_r, x1, bv, y1', bi, hE9, q, X10_tells_203]
        exact ⟨m3, u1, u2, fr⟩
      · rw [decide_eq_false q, if_neg (by decide)] at u1
        simp (disch := omega) only [leT, leF, ltT, ltF, eqT, eqF, inT, n_cl, nI_add, pk_mul, n_div, pk_sub, md8, md2, or_true, true_or, or_false, false_or, Bool.true_eq_false, Bool.false_eq_true, L0, L1, L2, L3, L4, L5, L6, L7, L8, L9, L10, L20, L31, L40, L64, L99, L100, L255, L256, L999, L1000, L99999, ↓reduceIte, L11, L12, L13, L14, L15, L16, L30, L48, L160, K1, K2, K3, K4, K5, K7, K8, K9, K15, K17, K20, K27, K37, K48, K99, K255, inR, isPlace_r, isPlace_c, isSheet_r, x1, bv, y1', bi, hE9, q, X10_tells_203, or0]
        exact ⟨m3, u1, u2, fr⟩
theorem Iv_v (hv : ve ≤ c) (hE : CE cd r nt z ve m) (hW : IW cd r rk G H tp n nt m) (hR : RR mb G) (hB : FrV m mb) : Iv (c + 1) nt z mb := by
  have fr : FRf m mb := fun x j q => ⟨hB.1 x j (by omega) (by omega) (by omega), hB.2 x j (by omega)⟩
  refine ⟨cd, r, rk, G, H, tp, n, ve, by omega, CE_rf fr hE, IW_fo hW (RF_rf fo5 fr hW.2.1) hR hW.2.2.2.1 (Nat.le_refl _) (fun _ _ => rfl) (fun x j h => ?_)⟩
  unfold DuO at h
  exact hB.1 x j (by omega) (by omega) (by omega)
theorem tl106 (hs : s < 4) (hE : RE cd r nt m) (hR : RR m G) (hN : NTE nt m) (hG : GO nt 999 G) (hp : p < G 0 0) (hw1 : 1 ≤ w) (hw : w ≤ 4) (hQ : ∀ v, v < cW nt w → Q v = decide (foV cd r (gU G (jW w) (pW w p) v) I p = 9)) (hI : ∀ u, u < 8 → m.1 78 (40 * s + u) = I u) : ∃ m', X10_tells_106 (nI s) (nI p) (nI (sW w)) m = some (cbS Q (cW nt w), m') ∧ RR m' G ∧ FrV m m' := by
  have hnt := hE.1
  obtain ⟨m', a1, a2, a3⟩ := cb_r (cd := cd) (r := r) (I := I) (Q := Q) (s := s) (p := p) (w := w) hs hG hnt hp hw1 hw hQ 10000 0 m G (Nat.zero_le _) (by unfold cW; split; omega; split; omega; split <;> omega) hE hR (fun _ => rfl) hI
  refine ⟨m', ?_, a2, a3⟩
  unfold X10_tells_106 X10_tells_129 X10_tells_162 X10_mostOf
  have s3 := hR.2.2.1
  have n2 := hN.2
  rcases (show w = 1 ∨ w = 2 ∨ w = 3 ∨ w = 4 by omega) with h | h | h | h
  · have e : sW w = 5 := by unfold sW; rw [if_pos h]
    have t := told_r (w := 5) hR hG (by decide) (by decide) hp
    have e3 : rwN 5 = 1 := rfl
    have e1 : jW w = 1 := by unfold jW; rw [if_neg (by omega), h]
    have e2 : pW w p = p := by unfold pW; rw [if_neg (by omega)]
    have e4 : cW nt w - 1 = 5 := by unfold cW; rw [if_pos h]
    rw [e1, e2, e4, e] at a1
    rw [e3] at t
    rw [e]
    simp (disch := omega) only [leT, leF, ltT, ltF, eqT, eqF, inT, n_cl, nI_add, pk_mul, n_div, pk_sub, md8, md2, or_true, true_or, or_false, false_or, Bool.true_eq_false, Bool.false_eq_true, L0, L1, L2, L3, L4, L5, L6, L7, L8, L9, L10, L20, L31, L40, L64, L99, L100, L255, L256, L999, L1000, L99999, ↓reduceIte, L11, L12, L13, L14, L15, L16, L30, L48, L160, K1, K2, K3, K4, K5, K7, K8, K9, K15, K17, K20, K27, K37, K48, K99, K255, inR, isPlace_r, isPlace_c, isSheet_r, t, bi]
    exact a1
  · have e : sW w = 1 := by unfold sW; rw [if_neg (by omega), if_neg (by omega), h]
    have t := told_r (w := 1) hR hG (by decide) (by decide) hp
    have e3 : rwN 1 = 2 := rfl
    have e1 : jW w = 2 := by unfold jW; rw [if_neg (by omega), h]
    have e2 : pW w p = p := by unfold pW; rw [if_neg (by omega)]
    have e4 : cW nt w - 1 = 9 := by unfold cW; rw [if_neg (by omega), if_pos h]
    rw [e1, e2, e4, e] at a1
    rw [e3] at t
    rw [e]
    simp (disch := omega) only [leT, leF, ltT, ltF, eqT, eqF, inT, n_cl, nI_add, pk_mul, n_div, pk_sub, md8, md2, or_true, true_or, or_false, false_or, Bool.true_eq_false, Bool.false_eq_true, L0, L1, L2, L3, L4, L5, L6, L7, L8, L9, L10, L20, L31, L40, L64, L99, L100, L255, L256, L999, L1000, L99999, ↓reduceIte, L11, L12, L13, L14, L15, L16, L30, L48, L160, K1, K2, K3, K4, K5, K7, K8, K9, K15, K17, K20, K27, K37, K48, K99, K255, inR, isPlace_r, isPlace_c, isSheet_r, t, bi]
    exact a1
  · have e : sW w = 2 := by unfold sW; rw [if_neg (by omega), if_neg (by omega), h]
    have t := told_r (w := 2) hR hG (by decide) (by decide) hp
    have e3 : rwN 2 = 3 := rfl
    have e1 : jW w = 3 := by unfold jW; rw [if_neg (by omega), h]
    have e2 : pW w p = p := by unfold pW; rw [if_neg (by omega)]
    have e4 : cW nt w - 1 = 7 := by unfold cW; rw [if_neg (by omega), if_neg (by omega), if_pos h]
    rw [e1, e2, e4, e] at a1
    rw [e3] at t
    rw [e]
    simp (disch := omega) only [leT, leF, ltT, ltF, eqT, eqF, inT, n_cl, nI_add, pk_mul, n_div, pk_sub, md8, md2, or_true, true_or, or_false, false_or, Bool.true_eq_false, Bool.false_eq_true, L0, L1, L2, L3, L4, L5, L6, L7, L8, L9, L10, L20, L31, L40, L64, L99, L100, L255, L256, L999, L1000, L99999, ↓reduceIte, L11, L12, L13, L14, L15, L16, L30, L48, L160, K1, K2, K3, K4, K5, K7, K8, K9, K15, K17, K20, K27, K37, K48, K99, K255, inR, isPlace_r, isPlace_c, isSheet_r, t, bi]
    exact a1
  · have e : sW w = 6 := by unfold sW; rw [if_neg (by omega), if_pos h]
    have e1 : jW w = 0 := by unfold jW; rw [if_pos h]
    have e2 : pW w p = 2 := by unfold pW; rw [if_pos h]
    have e4 : cW nt w - 1 = nt := by unfold cW; rw [if_neg (by omega), if_neg (by omega), if_neg (by omega)]; rfl
    rw [e1, e2, e4, e] at a1
    rw [e]
    simp (disch := omega) only [leT, leF, ltT, ltF, eqT, eqF, inT, n_cl, nI_add, pk_mul, n_div, pk_sub, md8, md2, or_true, true_or, or_false, false_or, Bool.true_eq_false, Bool.false_eq_true, L0, L1, L2, L3, L4, L5, L6, L7, L8, L9, L10, L20, L31, L40, L64, L99, L100, L255, L256, L999, L1000, L99999, ↓reduceIte, L11, L12, L13, L14, L15, L16, L30, L48, L160, K1, K2, K3, K4, K5, K7, K8, K9, K15, K17, K20, K27, K37, K48, K99, K255, inR, isPlace_r, isPlace_c, isSheet_r, s3, n2, Nat.add_sub_cancel]
    exact a1
theorem tells_k {i : Nat} {so : Nat} (hv : ve ≤ c) (hE : CE cd r nt z ve m) (hW : IW cd r rk G H tp n nt m) (hi : i < 4) (t1 : SHt m i so 8) (hp : p < G 0 0) (hw : w ≤ 5) : ∃ (r : Int32) (m1 m2 : Mem), X9_tells nt z (nI i) (nI p) (nI w) m = some (r, m1) ∧ X10_tells (nI i) (nI p) (nI w) m1 = some (r, m2) ∧ Iv (c + 1) nt z m2 := by
  have hG := hW.2.2.2.1
  have g0 := hG.1
  have hnt := hW.1.1
  obtain ⟨g1, g2, g3, g4, g5, g6, g7, g8⟩ := t1
  have pc := fun x => isPerson_c g0 x m (hW.2.1.1 0 (by decide))
  have so1 := fun m' => shOf_c hi m'
  have hh := here_c (show so < 3 by omega) g3
  have hsx : 55 + 2 * i = 55 ∨ 55 + 2 * i = 57 ∨ 55 + 2 * i = 59 ∨ 55 + 2 * i = 61 := by omega
  have hI : ∀ u, u < 8 → m.1 (55 + 2 * i + 1) u = m.1 78 (40 * i + u) := fun u hu => by rw [show 55 + 2 * i + 1 = 56 + 2 * i by omega]; exact g8 u hu
  have key : ∀ (V : Int32) (m1 m2 : Mem), CE cd r nt z ve m1 → SF m m1 → (if w = 0 then X9_firstOtherwise nt z (55 + 2 * i) 5 (nI p) m = some (V, m1) else X9_couldBe nt z (55 + 2 * i) (nI p) (nI w) m = some (V, m1)) → (if w = 0 ∨ w = 5 then X10_tells_65 (nI i) (nI p) (nI w) m1 = some (V, m2) else X10_tells_106 (nI i) (nI p) (nI (sW w)) m1 = some (V, m2)) → RR m2 G → FrV m1 m2 → ∃ (r : Int32) (m1 m2 : Mem), X9_tells nt z (nI i) (nI p) (nI w) m = some (r, m1) ∧ X10_tells (nI i) (nI p) (nI w) m1 = some (r, m2) ∧ Iv (c + 1) nt z m2 := by
    intro V m1 m2 k1 k2 k3 k4 k5 k6
    have W1 := IW_s k2 hW
    have pr1 := fun x => isOne_r g0 x m1 W1.2.2.1.1
    have q5 : m1.1 75 i = nI 1 := by rw [k2 _ _ (by omega) (by omega) (by omega) (by omega) (by omega) (by omega) (by omega) (by omega)]; exact g5
    have q7 : m1.1 77 i = nI 8 := by rw [k2 _ _ (by omega) (by omega) (by omega) (by omega) (by omega) (by omega) (by omega) (by omega)]; exact g7
    refine ⟨V, m1, m2, ?_, ?_, Iv_v hv k1 W1 k5 k6⟩
    · unfold X9_tells
      by_cases w0 : w = 0
      · rw [if_pos w0] at k3
        simp (disch := omega) only [leT, leF, ltT, ltF, eqT, eqF, inT, n_cl, nI_add, pk_mul, n_div, pk_sub, md8, md2, or_true, true_or, or_false, false_or, Bool.true_eq_false, Bool.false_eq_true, L0, L1, L2, L3, L4, L5, L6, L7, L8, L9, L10, L20, L31, L40, L64, L99, L100, L255, L256, L999, L1000, L99999, ↓reduceIte, L11, L12, L13, L14, L15, L16, L30, L48, L160, K1, K2, K3, K4, K5, K7, K8, K9, K15, K17, K20, K27, K37, K48, K99, K255, inR, isPlace_r, isPlace_c, isSheet_r, so1, bq, oq, bi, pc, hh, g4, k3]
      · rw [if_neg w0] at k3
        simp (disch := omega) only [leT, leF, ltT, ltF, eqT, eqF, inT, n_cl, nI_add, pk_mul, n_div, pk_sub, md8, md2, or_true, true_or, or_false, false_or, Bool.true_eq_false, Bool.false_eq_true, L0, L1, L2, L3, L4, L5, L6, L7, L8, L9, L10, L20, L31, L40, L64, L99, L100, L255, L256, L999, L1000, L99999, ↓reduceIte, L11, L12, L13, L14, L15, L16, L30, L48, L160, K1, K2, K3, K4, K5, K7, K8, K9, K15, K17, K20, K27, K37, K48, K99, K255, inR, isPlace_r, isPlace_c, isSheet_r, so1, bq, oq, bi, pc, hh, g4, k3]
    · unfold X10_tells
      by_cases w0 : w = 0 ∨ w = 5
      · rw [if_pos w0] at k4
        rcases w0 with h | h
        · simp (disch := omega) only [leT, leF, ltT, ltF, eqT, eqF, inT, n_cl, nI_add, pk_mul, n_div, pk_sub, md8, md2, or_true, true_or, or_false, false_or, Bool.true_eq_false, Bool.false_eq_true, L0, L1, L2, L3, L4, L5, L6, L7, L8, L9, L10, L20, L31, L40, L64, L99, L100, L255, L256, L999, L1000, L99999, ↓reduceIte, L11, L12, L13, L14, L15, L16, L30, L48, L160, K1, K2, K3, K4, K5, K7, K8, K9, K15, K17, K20, K27, K37, K48, K99, K255, inR, isPlace_r, isPlace_c, isSheet_r, bi, pr1, q5, q7]
          exact k4
        · simp (disch := omega) only [leT, leF, ltT, ltF, eqT, eqF, inT, n_cl, nI_add, pk_mul, n_div, pk_sub, md8, md2, or_true, true_or, or_false, false_or, Bool.true_eq_false, Bool.false_eq_true, L0, L1, L2, L3, L4, L5, L6, L7, L8, L9, L10, L20, L31, L40, L64, L99, L100, L255, L256, L999, L1000, L99999, ↓reduceIte, L11, L12, L13, L14, L15, L16, L30, L48, L160, K1, K2, K3, K4, K5, K7, K8, K9, K15, K17, K20, K27, K37, K48, K99, K255, inR, isPlace_r, isPlace_c, isSheet_r, bi, pr1, q5, q7]
          exact k4
      · rw [if_neg w0] at k4
        rcases (show w = 1 ∨ w = 2 ∨ w = 3 ∨ w = 4 by omega) with h | h | h | h
        · rw [show sW w = 5 by unfold sW; rw [if_pos h]] at k4
          simp (disch := omega) only [leT, leF, ltT, ltF, eqT, eqF, inT, n_cl, nI_add, pk_mul, n_div, pk_sub, md8, md2, or_true, true_or, or_false, false_or, Bool.true_eq_false, Bool.false_eq_true, L0, L1, L2, L3, L4, L5, L6, L7, L8, L9, L10, L20, L31, L40, L64, L99, L100, L255, L256, L999, L1000, L99999, ↓reduceIte, L11, L12, L13, L14, L15, L16, L30, L48, L160, K1, K2, K3, K4, K5, K7, K8, K9, K15, K17, K20, K27, K37, K48, K99, K255, inR, isPlace_r, isPlace_c, isSheet_r, bi, pr1, q5, q7]
          exact k4
        · rw [show sW w = w - 1 by unfold sW; rw [if_neg (by omega), if_neg (by omega)]] at k4
          simp (disch := omega) only [leT, leF, ltT, ltF, eqT, eqF, inT, n_cl, nI_add, pk_mul, n_div, pk_sub, md8, md2, or_true, true_or, or_false, false_or, Bool.true_eq_false, Bool.false_eq_true, L0, L1, L2, L3, L4, L5, L6, L7, L8, L9, L10, L20, L31, L40, L64, L99, L100, L255, L256, L999, L1000, L99999, ↓reduceIte, L11, L12, L13, L14, L15, L16, L30, L48, L160, K1, K2, K3, K4, K5, K7, K8, K9, K15, K17, K20, K27, K37, K48, K99, K255, inR, isPlace_r, isPlace_c, isSheet_r, bi, pr1, q5, q7]
          exact k4
        · rw [show sW w = w - 1 by unfold sW; rw [if_neg (by omega), if_neg (by omega)]] at k4
          simp (disch := omega) only [leT, leF, ltT, ltF, eqT, eqF, inT, n_cl, nI_add, pk_mul, n_div, pk_sub, md8, md2, or_true, true_or, or_false, false_or, Bool.true_eq_false, Bool.false_eq_true, L0, L1, L2, L3, L4, L5, L6, L7, L8, L9, L10, L20, L31, L40, L64, L99, L100, L255, L256, L999, L1000, L99999, ↓reduceIte, L11, L12, L13, L14, L15, L16, L30, L48, L160, K1, K2, K3, K4, K5, K7, K8, K9, K15, K17, K20, K27, K37, K48, K99, K255, inR, isPlace_r, isPlace_c, isSheet_r, bi, pr1, q5, q7]
          exact k4
        · rw [show sW w = 6 by unfold sW; rw [if_neg (by omega), if_pos h]] at k4
          simp (disch := omega) only [leT, leF, ltT, ltF, eqT, eqF, inT, n_cl, nI_add, pk_mul, n_div, pk_sub, md8, md2, or_true, true_or, or_false, false_or, Bool.true_eq_false, Bool.false_eq_true, L0, L1, L2, L3, L4, L5, L6, L7, L8, L9, L10, L20, L31, L40, L64, L99, L100, L255, L256, L999, L1000, L99999, ↓reduceIte, L11, L12, L13, L14, L15, L16, L30, L48, L160, K1, K2, K3, K4, K5, K7, K8, K9, K15, K17, K20, K27, K37, K48, K99, K255, inR, isPlace_r, isPlace_c, isSheet_r, bi, pr1, q5, q7]
          exact k4
  have hI1 : ∀ m1, SF m m1 → ∀ u, u < 8 → m1.1 78 (40 * i + u) = m.1 78 (40 * i + u) := fun m1 k u hu => k _ _ (by omega) (by omega) (by omega) (by omega) (by omega) (by omega) (by omega) (by omega)
  by_cases w0 : w = 0
  · obtain ⟨m1, x1, x2, x3⟩ := fo_c (cd := cd) (r := r) (z := z) (ve := ve) (I := fun u => m.1 78 (40 * i + u)) (p := p) (GO_up (show 999 ≤ 1019 by decide) hG) fo5 (by omega) hsx 10000 0 m (by decide) (by decide) hE hW.2.1 hI
    have W1 := IW_s (SF_x x3) hW
    obtain ⟨m2, y1, y2⟩ := fo_r (cd := cd) (r := r) (I := fun u => m.1 78 (40 * i + u)) (p := p) hG hp hi 10000 0 m1 (by decide) (by decide) W1.1 W1.2.2.1 (hI1 m1 (SF_x x3))
    have y1' : X10_firstOther (nI i) (nI p) m1 = some (nbI (ftQ (foP cd r G (fun u => m.1 78 (40 * i + u)) p) (8 - 0)), m2) := y1
    refine key _ m1 m2 x2 (SF_x x3) (by rw [if_pos w0]; exact x1) (by
      rw [if_pos (.inl w0)]
      unfold X10_tells_65
      simp (disch := omega) only [leT, leF, ltT, ltF, eqT, eqF, inT, n_cl, nI_add, pk_mul, n_div, pk_sub, md8, md2, or_true, true_or, or_false, false_or, Bool.true_eq_false, Bool.false_eq_true, L0, L1, L2, L3, L4, L5, L6, L7, L8, L9, L10, L20, L31, L40, L64, L99, L100, L255, L256, L999, L1000, L99999, ↓reduceIte, L11, L12, L13, L14, L15, L16, L30, L48, L160, K1, K2, K3, K4, K5, K7, K8, K9, K15, K17, K20, K27, K37, K48, K99, K255, inR, isPlace_r, isPlace_c, isSheet_r, y1', bi]) (FrA_rr y2 W1.2.2.1) (FrV_a y2)
  · obtain ⟨mt, t1, t2, t3, t4⟩ := think_c hE hW.2.1
    have hIt : ∀ u, u < 8 → mt.1 (55 + 2 * i + 1) u = m.1 78 (40 * i + u) := fun u hu => by rw [t4 _ _ (by omega) (by omega) (by omega) (by omega) (by omega) (by omega) (by omega) (by omega)]; exact hI u hu
    by_cases w5 : w = 5
    · obtain ⟨m1, x1, x2, x3⟩ := cb5_c (cd := cd) (r := r) (z := z) (ve := ve) (p := p) (w := w) (I := fun u => m.1 78 (40 * i + u)) (Q := fun v => decide (foV cd r G (fun u => m.1 78 (40 * i + u)) v = 9)) hsx hG w5 (fun _ _ => rfl) 10000 0 mt (Nat.zero_le _) (by omega) t3 t2 hIt
      have sf := SF_t t4 x3
      have W1 := IW_s sf hW
      obtain ⟨m2, y1, y2⟩ := like_r (cd := cd) (r := r) (I := fun u => m.1 78 (40 * i + u)) (Q := fun v => decide (foV cd r G (fun u => m.1 78 (40 * i + u)) v = 9)) hG hi (fun _ _ => rfl) 10000 0 m1 (Nat.zero_le _) (by omega) W1.1 W1.2.2.1 (hI1 m1 sf)
      have y1' : X10_likeSet (nI i) m1 = some (cbS (fun v => decide (foV cd r G (fun u => m.1 78 (40 * i + u)) v = 9)) (G 0 0), m2) := y1
      have s0 : mt.1 5 0 = nI (G 0 0) := by rw [t4 _ _ (by omega) (by omega) (by omega) (by omega) (by omega) (by omega) (by omega) (by omega)]; exact hW.2.1.1 0 (by decide)
      refine key _ m1 m2 x2 sf (by
        rw [if_neg w0]
        unfold X9_couldBe X9_choicesOf
        simp (disch := omega) only [leT, leF, ltT, ltF, eqT, eqF, inT, n_cl, nI_add, pk_mul, n_div, pk_sub, md8, md2, or_true, true_or, or_false, false_or, Bool.true_eq_false, Bool.false_eq_true, L0, L1, L2, L3, L4, L5, L6, L7, L8, L9, L10, L20, L31, L40, L64, L99, L100, L255, L256, L999, L1000, L99999, ↓reduceIte, L11, L12, L13, L14, L15, L16, L30, L48, L160, K1, K2, K3, K4, K5, K7, K8, K9, K15, K17, K20, K27, K37, K48, K99, K255, inR, isPlace_r, isPlace_c, isSheet_r, t1, bv, bi, s0]
        exact x1) (by
        rw [if_pos (.inr w5)]
        unfold X10_tells_65
        simp (disch := omega) only [leT, leF, ltT, ltF, eqT, eqF, inT, n_cl, nI_add, pk_mul, n_div, pk_sub, md8, md2, or_true, true_or, or_false, false_or, Bool.true_eq_false, Bool.false_eq_true, L0, L1, L2, L3, L4, L5, L6, L7, L8, L9, L10, L20, L31, L40, L64, L99, L100, L255, L256, L999, L1000, L99999, ↓reduceIte, L11, L12, L13, L14, L15, L16, L30, L48, L160, K1, K2, K3, K4, K5, K7, K8, K9, K15, K17, K20, K27, K37, K48, K99, K255, inR, isPlace_r, isPlace_c, isSheet_r, y1', bi]) (FrA_rr y2 W1.2.2.1) (FrV_a y2)
    · obtain ⟨m1, x1, x2, x3⟩ := cb_c (cd := cd) (r := r) (z := z) (ve := ve) (p := p) (w := w) (I := fun u => m.1 78 (40 * i + u)) (Q := fun v => decide (foV cd r (gU G (jW w) (pW w p) v) (fun u => m.1 78 (40 * i + u)) p = 9)) hsx hG hnt (by omega) (by omega) (by omega) (fun _ _ => rfl) 10000 0 mt G (Nat.zero_le _) (by unfold cW; split; omega; split; omega; split <;> omega) t3 t2 (fun _ => rfl) hIt
      have sf := SF_t t4 x3
      have W1 := IW_s sf hW
      obtain ⟨m2, y1, y2, y3⟩ := tl106 (cd := cd) (r := r) (I := fun u => m.1 78 (40 * i + u)) (Q := fun v => decide (foV cd r (gU G (jW w) (pW w p) v) (fun u => m.1 78 (40 * i + u)) p = 9)) hi W1.1 W1.2.2.1 W1.2.2.2.2.2.2.1 hG hp (show 1 ≤ w by omega) (by omega) (fun _ _ => rfl) (hI1 m1 sf)
      have n2 : mt.1 33 2 = nI (nt + 1) := by rw [t4 _ _ (by omega) (by omega) (by omega) (by omega) (by omega) (by omega) (by omega) (by omega)]; exact hW.2.2.2.2.2.2.1.1
      refine key (cbS (fun v => decide (foV cd r (gU G (jW w) (pW w p) v) (fun u => m.1 78 (40 * i + u)) p = 9)) (cW nt w)) m1 m2 x2 sf (by
        rw [if_neg w0]
        unfold X9_couldBe X9_choicesOf
        rcases (show w = 1 ∨ w = 2 ∨ w = 3 ∨ w = 4 by omega) with h | h | h | h
        · have e : cW nt w = 6 := by unfold cW; rw [if_pos h]
          simp (disch := omega) only [leT, leF, ltT, ltF, eqT, eqF, inT, n_cl, nI_add, pk_mul, n_div, pk_sub, md8, md2, or_true, true_or, or_false, false_or, Bool.true_eq_false, Bool.false_eq_true, L0, L1, L2, L3, L4, L5, L6, L7, L8, L9, L10, L20, L31, L40, L64, L99, L100, L255, L256, L999, L1000, L99999, ↓reduceIte, L11, L12, L13, L14, L15, L16, L30, L48, L160, K1, K2, K3, K4, K5, K7, K8, K9, K15, K17, K20, K27, K37, K48, K99, K255, inR, isPlace_r, isPlace_c, isSheet_r, t1, bv, bi]
          rw [show nI 6 = nI (cW nt w) by rw [e]]; exact x1
        · have e : cW nt w = 10 := by unfold cW; rw [if_neg (by omega), if_pos h]
          simp (disch := omega) only [leT, leF, ltT, ltF, eqT, eqF, inT, n_cl, nI_add, pk_mul, n_div, pk_sub, md8, md2, or_true, true_or, or_false, false_or, Bool.true_eq_false, Bool.false_eq_true, L0, L1, L2, L3, L4, L5, L6, L7, L8, L9, L10, L20, L31, L40, L64, L99, L100, L255, L256, L999, L1000, L99999, ↓reduceIte, L11, L12, L13, L14, L15, L16, L30, L48, L160, K1, K2, K3, K4, K5, K7, K8, K9, K15, K17, K20, K27, K37, K48, K99, K255, inR, isPlace_r, isPlace_c, isSheet_r, t1, bv, bi]
          rw [show nI 10 = nI (cW nt w) by rw [e]]; exact x1
        · have e : cW nt w = 8 := by unfold cW; rw [if_neg (by omega), if_neg (by omega), if_pos h]
          simp (disch := omega) only [leT, leF, ltT, ltF, eqT, eqF, inT, n_cl, nI_add, pk_mul, n_div, pk_sub, md8, md2, or_true, true_or, or_false, false_or, Bool.true_eq_false, Bool.false_eq_true, L0, L1, L2, L3, L4, L5, L6, L7, L8, L9, L10, L20, L31, L40, L64, L99, L100, L255, L256, L999, L1000, L99999, ↓reduceIte, L11, L12, L13, L14, L15, L16, L30, L48, L160, K1, K2, K3, K4, K5, K7, K8, K9, K15, K17, K20, K27, K37, K48, K99, K255, inR, isPlace_r, isPlace_c, isSheet_r, t1, bv, bi]
          rw [show nI 8 = nI (cW nt w) by rw [e]]; exact x1
        · have e : cW nt w = nt + 1 := by unfold cW; rw [if_neg (by omega), if_neg (by omega), if_neg (by omega)]
          simp (disch := omega) only [leT, leF, ltT, ltF, eqT, eqF, inT, n_cl, nI_add, pk_mul, n_div, pk_sub, md8, md2, or_true, true_or, or_false, false_or, Bool.true_eq_false, Bool.false_eq_true, L0, L1, L2, L3, L4, L5, L6, L7, L8, L9, L10, L20, L31, L40, L64, L99, L100, L255, L256, L999, L1000, L99999, ↓reduceIte, L11, L12, L13, L14, L15, L16, L30, L48, L160, K1, K2, K3, K4, K5, K7, K8, K9, K15, K17, K20, K27, K37, K48, K99, K255, inR, isPlace_r, isPlace_c, isSheet_r, t1, bv, bi, n2]
          rw [show nI (nt + 1) = nI (cW nt w) by rw [e]]; exact x1) (by
        rw [if_neg (by omega)]
        exact y1) y2 y3
end
theorem o_tells : ob_tells Iv := by
  rintro c nt z m a1 a2 a3 hc ⟨cd, r, rk, G, H, tp, n, ve, hv, hE, hW⟩
  have bad : Iv (c + 1) nt z m := Iv_0 hv hE hW
  have hG := hW.2.2.2.1
  have g0 := hG.1
  have w8 := hW.2.2.2.2.2.2.2
  have pc := fun x => isPerson_c g0 x m (hW.2.1.1 0 (by decide))
  have pr := fun x => isOne_r g0 x m hW.2.2.1.1
  rcases dich a1 4 (by decide) with ⟨i, hi, rfl⟩ | d
  · have so1 := fun m' => shOf_c hi m'
    rcases dich a2 (G 0 0) (by omega) with ⟨p, hp, rfl⟩ | d
    · rcases dich a3 6 (by decide) with ⟨w, hw, rfl⟩ | ⟨d0, d⟩
      · rcases w8 i hi with ⟨u1, u2⟩ | ⟨so, sz, t1⟩
        · refine ⟨-nI 11, m, m, ?_, ?_, bad⟩
          · unfold X9_tells
            simp (disch := omega) only [leT, leF, ltT, ltF, eqT, eqF, inT, n_cl, nI_add, pk_mul, n_div, pk_sub, md8, md2, or_true, true_or, or_false, false_or, Bool.true_eq_false, Bool.false_eq_true, L0, L1, L2, L3, L4, L5, L6, L7, L8, L9, L10, L20, L31, L40, L64, L99, L100, L255, L256, L999, L1000, L99999, ↓reduceIte, L11, L12, L13, L14, L15, L16, L30, L48, L160, K1, K2, K3, K4, K5, K7, K8, K9, K15, K17, K20, K27, K37, K48, K99, K255, inR, isPlace_r, isPlace_c, isSheet_r, so1, bq, oq, bi, pc, miss_c u1]
          · unfold X10_tells
            simp (disch := omega) only [leT, leF, ltT, ltF, eqT, eqF, inT, n_cl, nI_add, pk_mul, n_div, pk_sub, md8, md2, or_true, true_or, or_false, false_or, Bool.true_eq_false, Bool.false_eq_true, L0, L1, L2, L3, L4, L5, L6, L7, L8, L9, L10, L20, L31, L40, L64, L99, L100, L255, L256, L999, L1000, L99999, ↓reduceIte, L11, L12, L13, L14, L15, L16, L30, L48, L160, K1, K2, K3, K4, K5, K7, K8, K9, K15, K17, K20, K27, K37, K48, K99, K255, inR, isPlace_r, isPlace_c, isSheet_r, bi, pr, u2]
        · by_cases h8 : sz = 8
          · subst h8
            exact tells_k hv hE hW hi t1 hp (by omega)
          · obtain ⟨g1, g2, g3, g4, g5, g6, g7, g8⟩ := t1
            refine ⟨-nI 2, m, m, ?_, ?_, bad⟩
            · unfold X9_tells
              simp (disch := omega) only [leT, leF, ltT, ltF, eqT, eqF, inT, n_cl, nI_add, pk_mul, n_div, pk_sub, md8, md2, or_true, true_or, or_false, false_or, Bool.true_eq_false, Bool.false_eq_true, L0, L1, L2, L3, L4, L5, L6, L7, L8, L9, L10, L20, L31, L40, L64, L99, L100, L255, L256, L999, L1000, L99999, ↓reduceIte, L11, L12, L13, L14, L15, L16, L30, L48, L160, K1, K2, K3, K4, K5, K7, K8, K9, K15, K17, K20, K27, K37, K48, K99, K255, inR, isPlace_r, isPlace_c, isSheet_r, so1, bq, oq, bi, pc, here_c (show so < 3 by omega) g3, g4]
            · unfold X10_tells
              simp (disch := omega) only [leT, leF, ltT, ltF, eqT, eqF, inT, n_cl, nI_add, pk_mul, n_div, pk_sub, md8, md2, or_true, true_or, or_false, false_or, Bool.true_eq_false, Bool.false_eq_true, L0, L1, L2, L3, L4, L5, L6, L7, L8, L9, L10, L20, L31, L40, L64, L99, L100, L255, L256, L999, L1000, L99999, ↓reduceIte, L11, L12, L13, L14, L15, L16, L30, L48, L160, K1, K2, K3, K4, K5, K7, K8, K9, K15, K17, K20, K27, K37, K48, K99, K255, inR, isPlace_r, isPlace_c, isSheet_r, bi, pr, g5, g7]
      · refine ⟨-nI 2, m, m, ?_, ?_, bad⟩
        · unfold X9_tells
          rcases d with d1 | ⟨d1, d2, d3, d4⟩
          · simp (disch := omega) only [leT, leF, ltT, ltF, eqT, eqF, inT, n_cl, nI_add, pk_mul, n_div, pk_sub, md8, md2, or_true, true_or, or_false, false_or, Bool.true_eq_false, Bool.false_eq_true, L0, L1, L2, L3, L4, L5, L6, L7, L8, L9, L10, L20, L31, L40, L64, L99, L100, L255, L256, L999, L1000, L99999, ↓reduceIte, L11, L12, L13, L14, L15, L16, L30, L48, L160, K1, K2, K3, K4, K5, K7, K8, K9, K15, K17, K20, K27, K37, K48, K99, K255, inR, isPlace_r, isPlace_c, isSheet_r, so1, bq, oq, bi, pc, d1]
          · simp (disch := omega) only [leT, leF, ltT, ltF, eqT, eqF, inT, n_cl, nI_add, pk_mul, n_div, pk_sub, md8, md2, or_true, true_or, or_false, false_or, Bool.true_eq_false, Bool.false_eq_true, L0, L1, L2, L3, L4, L5, L6, L7, L8, L9, L10, L20, L31, L40, L64, L99, L100, L255, L256, L999, L1000, L99999, ↓reduceIte, L11, L12, L13, L14, L15, L16, L30, L48, L160, K1, K2, K3, K4, K5, K7, K8, K9, K15, K17, K20, K27, K37, K48, K99, K255, inR, isPlace_r, isPlace_c, isSheet_r, so1, bq, oq, bi, pc, d1, d4 5 (by decide)]
        · unfold X10_tells
          simp (disch := omega) only [leT, leF, ltT, ltF, eqT, eqF, inT, n_cl, nI_add, pk_mul, n_div, pk_sub, md8, md2, or_true, true_or, or_false, false_or, Bool.true_eq_false, Bool.false_eq_true, L0, L1, L2, L3, L4, L5, L6, L7, L8, L9, L10, L20, L31, L40, L64, L99, L100, L255, L256, L999, L1000, L99999, ↓reduceIte, L11, L12, L13, L14, L15, L16, L30, L48, L160, K1, K2, K3, K4, K5, K7, K8, K9, K15, K17, K20, K27, K37, K48, K99, K255, inR, isPlace_r, isPlace_c, isSheet_r, bi, pr, d0]
    · refine ⟨-nI 2, m, m, ?_, ?_, bad⟩
      · unfold X9_tells
        simp (disch := omega) only [leT, leF, ltT, ltF, eqT, eqF, inT, n_cl, nI_add, pk_mul, n_div, pk_sub, md8, md2, or_true, true_or, or_false, false_or, Bool.true_eq_false, Bool.false_eq_true, L0, L1, L2, L3, L4, L5, L6, L7, L8, L9, L10, L20, L31, L40, L64, L99, L100, L255, L256, L999, L1000, L99999, ↓reduceIte, L11, L12, L13, L14, L15, L16, L30, L48, L160, K1, K2, K3, K4, K5, K7, K8, K9, K15, K17, K20, K27, K37, K48, K99, K255, inR, isPlace_r, isPlace_c, isSheet_r, so1, bq, oq, bi, pc, d.1]
      · unfold X10_tells
        simp (disch := omega) only [leT, leF, ltT, ltF, eqT, eqF, inT, n_cl, nI_add, pk_mul, n_div, pk_sub, md8, md2, or_true, true_or, or_false, false_or, Bool.true_eq_false, Bool.false_eq_true, L0, L1, L2, L3, L4, L5, L6, L7, L8, L9, L10, L20, L31, L40, L64, L99, L100, L255, L256, L999, L1000, L99999, ↓reduceIte, L11, L12, L13, L14, L15, L16, L30, L48, L160, K1, K2, K3, K4, K5, K7, K8, K9, K15, K17, K20, K27, K37, K48, K99, K255, inR, isPlace_r, isPlace_c, isSheet_r, bi, pr, d.1]
  · refine ⟨-nI 2, m, m, ?_, ?_, bad⟩
    · unfold X9_tells
      simp (disch := omega) only [leT, leF, ltT, ltF, eqT, eqF, inT, n_cl, nI_add, pk_mul, n_div, pk_sub, md8, md2, or_true, true_or, or_false, false_or, Bool.true_eq_false, Bool.false_eq_true, L0, L1, L2, L3, L4, L5, L6, L7, L8, L9, L10, L20, L31, L40, L64, L99, L100, L255, L256, L999, L1000, L99999, ↓reduceIte, L11, L12, L13, L14, L15, L16, L30, L48, L160, K1, K2, K3, K4, K5, K7, K8, K9, K15, K17, K20, K27, K37, K48, K99, K255, inR, isPlace_r, isPlace_c, isSheet_r, shOf_n d, bq, oq]
    · unfold X10_tells
      simp (disch := omega) only [leT, leF, ltT, ltF, eqT, eqF, inT, n_cl, nI_add, pk_mul, n_div, pk_sub, md8, md2, or_true, true_or, or_false, false_or, Bool.true_eq_false, Bool.false_eq_true, L0, L1, L2, L3, L4, L5, L6, L7, L8, L9, L10, L20, L31, L40, L64, L99, L100, L255, L256, L999, L1000, L99999, ↓reduceIte, L11, L12, L13, L14, L15, L16, L30, L48, L160, K1, K2, K3, K4, K5, K7, K8, K9, K15, K17, K20, K27, K37, K48, K99, K255, inR, isPlace_r, isPlace_c, isSheet_r, bi, d.1]
