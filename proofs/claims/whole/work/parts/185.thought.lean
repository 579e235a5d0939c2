/-! in thought -/
def wyS (G : Fo) (bu : Nat) : Nat → Nat
  | 0 => 0
  | p + 1 => if p = bu then wyS G bu p else wyS G bu p + popc (G 4 p)
/-- laid aside -/
def Asd (m ma : Mem) : Prop := (∀ j, j < 30 → ma.1 71 j = m.1 69 j) ∧ ma.1 63 29 = m.1 63 7 ∧ (∀ x j, x ≠ 69 → x ≠ 71 → ¬ (x = 63 ∧ (13 ≤ j ∧ j ≤ 27 ∨ j = 7 ∨ j = 29)) → ma.1 x j = m.1 x j) ∧ ∀ x j, ¬ (x = 63 ∧ j = 24) → ma.2 x j = m.2 x j
def Bk (m mb : Mem) : Prop := (∀ x j, x ≠ 69 → x ≠ 71 → ¬ (x = 63 ∧ (13 ≤ j ∧ j ≤ 27 ∨ j = 7 ∨ j = 29)) → mb.1 x j = m.1 x j) ∧ ∀ x j, ¬ (x = 63 ∧ j = 24) → mb.2 x j = m.2 x j
theorem Bk_r (m : Mem) : Bk m m := ⟨fun _ _ _ _ _ => rfl, fun _ _ _ => rfl⟩
theorem Bk_t {a b d : Mem} (h : Bk a b) (g : Bk b d) : Bk a d := ⟨fun x j p q s => (g.1 x j p q s).trans (h.1 x j p q s), fun x j p => (g.2 x j p).trans (h.2 x j p)⟩
section
variable {c nt ve f R bu n : Nat} {z : Nat → Nat} {m ma mb : Mem} {G G' H : Fo} {cd : Nat → Cd} {r rk : Nat → Nat} {tp : Nat → Nat}
theorem Bk_re (h : Bk m mb) (g : RE cd r nt m) : RE cd r nt mb := RE_f (fun x j q => h.1 x j (by omega) (by omega) (by omega)) g
theorem Asd_re (h : Asd m ma) (g : RE cd r nt m) : RE cd r nt ma := RE_f (fun x j q => h.2.2.1 x j (by omega) (by omega) (by omega)) g
theorem Asd_t (h : Asd m ma) (g : FrT ma mb) : Asd m mb := by
  obtain ⟨h1, h2, h3, h4⟩ := h
  refine ⟨fun j hj => ?_, ?_, fun x j a b d => ?_, fun x j a => ?_⟩
  · rw [g.1 71 j (by omega) (by omega)]; exact h1 j hj
  · rw [g.1 63 29 (by omega) (by omega)]; exact h2
  · rw [g.1 x j a (by omega)]; exact h3 x j a b d
  · rw [g.2 x j a]; exact h4 x j a
theorem Asd_69 {k : Nat} {v : Int32} (h : Asd m ma) : Asd m (pI ma 69 k v) := by
  obtain ⟨h1, h2, h3, h4⟩ := h
  refine ⟨fun j hj => ?_, ?_, fun x j a b d => ?_, fun x j a => ?_⟩
  · rw [rIn (by omega)]; exact h1 j hj
  · rw [rIn (by omega)]; exact h2
  · rw [rIn (by omega)]; exact h3 x j a b d
  · exact h4 x j a
theorem aside_r (m : Mem) (hR : RR m G) : ∃ ma, X10_laysAside m = some ma ∧ Asd m ma ∧ RR ma G := by
  obtain ⟨ma, a1, a2, a3⟩ := laysAside_l 10000 0 m (by decide) (by decide)
  refine ⟨ma, a1, ⟨fun j hj => ?_, ?_, fun x j h1 h2 h3 => ?_, fun x j _ => by rw [a2]⟩, RR_f (fun x j h => ?_) hR⟩
  · rw [a3, if_pos ⟨rfl, Nat.zero_le _, hj⟩]
  · rw [a3, if_neg (by omega), if_pos ⟨rfl, rfl⟩]
  · rw [a3, if_neg (by omega), if_neg (by omega)]
  · rw [a3, if_neg (by omega), if_neg (by omega)]
theorem bck_l : ∀ n k m, k ≤ 30 → 30 - k < n → ∃ m', X10_laysBack_2 n (nI k) m = some m' ∧ m'.2 = m.2 ∧ ∀ a j, m'.1 a j = if a = 69 ∧ k ≤ j ∧ j < 30 then m.1 71 j else if a = 63 ∧ j = 7 then m.1 63 29 else m.1 a j := by
  intro n
  induction n with
  | zero => intro k m _ h; omega
  | succ n ih =>
    intro k m hk hn
    rw [X10_laysBack_2]
    by_cases h : k = 30
    · subst h
      simp (disch := omega) only [leT, leF, ltT, ltF, eqT, eqF, inT, n_cl, nI_add, pk_mul, n_div, pk_sub, md8, md2, or_true, true_or, or_false, false_or, Bool.true_eq_false, Bool.false_eq_true, L0, L1, L2, L3, L4, L5, L6, L7, L8, L9, L10, L20, L31, L40, L64, L99, L100, L255, L256, L999, L1000, L99999, ↓reduceIte, L11, L12, L13, L14, L15, L16, L30, L48, L160, K1, K2, K3, K4, K5, K7, K8, K9, K15, K17, K20, K27, K37, K48, K99, K255, inR, isPlace_r, isPlace_c, isSheet_r]
      refine ⟨_, rfl, rfl, fun a j => ?_⟩
      rw [rI, if_neg (show ¬ (a = 69 ∧ 30 ≤ j ∧ j < 30) by omega)]
    · simp (disch := omega) only [leT, leF, ltT, ltF, eqT, eqF, inT, n_cl, nI_add, pk_mul, n_div, pk_sub, md8, md2, or_true, true_or, or_false, false_or, Bool.true_eq_false, Bool.false_eq_true, L0, L1, L2, L3, L4, L5, L6, L7, L8, L9, L10, L20, L31, L40, L64, L99, L100, L255, L256, L999, L1000, L99999, ↓reduceIte, L11, L12, L13, L14, L15, L16, L30, L48, L160, K1, K2, K3, K4, K5, K7, K8, K9, K15, K17, K20, K27, K37, K48, K99, K255, inR, isPlace_r, isPlace_c, isSheet_r]
      obtain ⟨m', e, e2, e1⟩ := ih (k + 1) (pI m 69 k (m.1 71 k)) (by omega) (by omega)
      refine ⟨m', e, e2, fun a j => ?_⟩
      rw [e1]
      by_cases q : a = 69 ∧ j = k
      · rw [if_neg (by omega), if_neg (by omega), if_pos (by omega), q.1, q.2, rIs]
      · rw [rIn (show 71 ≠ 69 ∨ j ≠ k by omega), rIn (show 63 ≠ 69 ∨ 29 ≠ k by omega), rIn (by omega)]
        by_cases q2 : a = 69 ∧ k + 1 ≤ j ∧ j < 30
        · rw [if_pos q2, if_pos (by omega)]
        · rw [if_neg q2, if_neg (show ¬ (a = 69 ∧ k ≤ j ∧ j < 30) by omega)]
theorem back_r (h : Asd m ma) (hR : RR m G) : ∃ mb, X10_laysBack ma = some mb ∧ RR mb G ∧ Bk m mb := by
  obtain ⟨mb, a1, a2, a3⟩ := bck_l 10000 0 ma (by decide) (by decide)
  obtain ⟨h1, h2, h3, h4⟩ := h
  have F : ∀ x j, x ≠ 69 → x ≠ 71 → ¬ (x = 63 ∧ (13 ≤ j ∧ j ≤ 27 ∨ j = 7 ∨ j = 29)) → mb.1 x j = m.1 x j := fun x j b1 b2 b3 => by
    rw [a3, if_neg (by omega), if_neg (by omega)]; exact h3 x j b1 b2 b3
  obtain ⟨g1, g2, g3, g4, g5⟩ := hR
  refine ⟨mb, a1, ⟨?_, ?_, ?_, fun p hp => ?_, fun p hp => ?_⟩, F, fun x j q => by rw [a2]; exact h4 x j q⟩
  · rw [F _ _ (by omega) (by omega) (by omega)]; exact g1
  · rw [a3, if_neg (by omega), if_pos ⟨rfl, rfl⟩, h2]; exact g2
  · rw [F _ _ (by omega) (by omega) (by omega)]; exact g3
  · rw [a3, if_pos (by omega), a3, if_pos (by omega), a3, if_pos (by omega), a3, if_pos (by omega), a3, if_pos (by omega), h1 _ (by omega), h1 _ (by omega), h1 _ (by omega), h1 _ (by omega), h1 _ (by omega)]
    exact g4 p hp
  · rw [F _ _ (by omega) (by omega) (by omega)]; exact g5 p hp
theorem Iv_b (hv : ve ≤ c) (hE : CE cd r nt z ve m) (hW : IW cd r rk G H tp n nt m) (hR : RR mb G) (hB : Bk m mb) : Iv (c + 1) nt z mb := by
  have fr : FRf m mb := fun x j q => ⟨hB.1 x j (by omega) (by omega) (by omega), hB.2 x j (by omega)⟩
  refine ⟨cd, r, rk, G, H, tp, n, ve, by omega, CE_rf fr hE, IW_fo hW (RF_rf fo5 fr hW.2.1) hR hW.2.2.2.1 (Nat.le_refl _) (fun _ _ => rfl) (fun x j h => ?_)⟩
  unfold DuO at h
  exact hB.1 x j (by omega) (by omega) (by omega)
/-- the thought one -/
theorem think_c (hE : CE cd r nt z ve m) (hR : RF 5 m G) : ∃ mt, X0_become 23 5 m = some mt ∧ RF 23 mt G ∧ CE cd r nt z ve mt ∧ SF m mt := by
  obtain ⟨mt, a1, a2, a3, a4⟩ := become_c (f := 23) (g := 5) fo23 fo5 (by decide) hR
  exact ⟨mt, a1, a2, CE_g hE (fun x j h => a3 x j (by omega)) (fun x j _ _ => by rw [a4]), fun x j _ _ _ h _ _ _ _ => a3 x j (by omega)⟩
theorem wyS_q (h : Rq G G') : ∀ p, wyS G' bu p = wyS G bu p := by
  intro p
  induction p with
  | zero => rfl
  | succ p ih => rw [wyS, wyS, ih, h 4 p (by omega)]
theorem wyS_le (hG : GO nt R G) : ∀ p, p ≤ 6 → wyS G bu p ≤ 8 * p := by
  intro p
  induction p with
  | zero => intro _; exact Nat.le_refl _
  | succ p ih =>
    intro hp
    have := popc_le (G 4 p) (by have := (hG.2.2.2 p (by omega)).2.2.2.1; omega)
    have := ih (by omega)
    rw [wyS]; split <;> omega
theorem wy_c (hR : RF f m G) (hG : GO nt R G) (hb : bu ≤ 9) : ∀ n p, p ≤ G 0 0 → G 0 0 - p < n → X0_ways_4 f n (nbI bu) (nI (wyS G bu p)) (nI p) m = some (nI (wyS G bu (G 0 0)), m) := by
  have g0 := hG.1
  have s0 := hR.1 0 (by decide)
  intro n
  induction n with
  | zero => intro p _ h; omega
  | succ n ih =>
    intro p hp hn
    rw [X0_ways_4]
    by_cases h8 : p = G 0 0
    · simp (disch := omega) only [leT, leF, ltT, ltF, eqT, eqF, inT, n_cl, nI_add, pk_mul, n_div, pk_sub, md8, md2, or_true, true_or, or_false, false_or, Bool.true_eq_false, Bool.false_eq_true, L0, L1, L2, L3, L4, L5, L6, L7, L8, L9, L10, L20, L31, L40, L64, L99, L100, L255, L256, L999, L1000, L99999, ↓reduceIte, s0, h8]
    · have e := hR.2 4 p (by decide) (by decide) (by omega)
      have hk := (hG.2.2.2 p (by omega)).2.2.2.1
      have hi := ih (p + 1) (by omega) (by omega)
      rw [wyS] at hi
      by_cases q : p = bu
      · rw [if_pos q] at hi
        have w2 : (nI p = nbI bu) = True := eq_true ((nbI_q (by omega) hb).mpr q)
        simp (disch := omega) only [leT, leF, ltT, ltF, eqT, eqF, inT, n_cl, nI_add, pk_mul, n_div, pk_sub, md8, md2, or_true, true_or, or_false, false_or, Bool.true_eq_false, Bool.false_eq_true, L0, L1, L2, L3, L4, L5, L6, L7, L8, L9, L10, L20, L31, L40, L64, L99, L100, L255, L256, L999, L1000, L99999, ↓reduceIte, s0, w2, X0_ways_29]
        exact hi
      · rw [if_neg q] at hi
        simp (disch := omega) only [leT, leF, ltT, ltF, eqT, eqF, inT, n_cl, nI_add, pk_mul, n_div, pk_sub, md8, md2, or_true, true_or, or_false, false_or, Bool.true_eq_false, Bool.false_eq_true, L0, L1, L2, L3, L4, L5, L6, L7, L8, L9, L10, L20, L31, L40, L64, L99, L100, L255, L256, L999, L1000, L99999, ↓reduceIte, s0, nbI_q (show p < 6 by omega) hb, q, e, bitCount_c (show G 4 p < 256 by omega), bi, X0_ways_29]
        exact hi
theorem ways_c (hR : RF f m G) (hG : GO nt R G) (hb : bu ≤ 9) : X0_ways f (nbI bu) m = some (nI (wyS G bu (G 0 0)), m) := wy_c hR hG hb 10000 0 (Nat.zero_le _) (by have := hG.1; omega)
theorem ka_r (hR : RR m G) (hG : GO nt R G) : ∀ n p, p ≤ G 0 0 → G 0 0 - p < n → X10_knownAll_4 n (nI (wyS G 9 p)) (nI p) m = some (nI (wyS G 9 (G 0 0)), m) := by
  have g0 := hG.1
  have s0 := hR.1
  intro n
  induction n with
  | zero => intro p _ h; omega
  | succ n ih =>
    intro p hp hn
    rw [X10_knownAll_4]
    by_cases h8 : p = G 0 0
    · simp (disch := omega) only [leT, leF, ltT, ltF, eqT, eqF, inT, n_cl, nI_add, pk_mul, n_div, pk_sub, md8, md2, or_true, true_or, or_false, false_or, Bool.true_eq_false, Bool.false_eq_true, L0, L1, L2, L3, L4, L5, L6, L7, L8, L9, L10, L20, L31, L40, L64, L99, L100, L255, L256, L999, L1000, L99999, ↓reduceIte, L11, L12, L13, L14, L15, L16, L30, L48, L160, K1, K2, K3, K4, K5, K7, K8, K9, K15, K17, K20, K27, K37, K48, K99, K255, inR, isPlace_r, isPlace_c, isSheet_r, s0, h8]
    · have e := (hR.2.2.2.1 p (by omega)).2.2.1
      have hk := (hG.2.2.2 p (by omega)).2.2.2.1
      have hi := ih (p + 1) (by omega) (by omega)
      rw [wyS, if_neg (by omega)] at hi
      simp (disch := omega) only [leT, leF, ltT, ltF, eqT, eqF, inT, n_cl, nI_add, pk_mul, n_div, pk_sub, md8, md2, or_true, true_or, or_false, false_or, Bool.true_eq_false, Bool.false_eq_true, L0, L1, L2, L3, L4, L5, L6, L7, L8, L9, L10, L20, L31, L40, L64, L99, L100, L255, L256, L999, L1000, L99999, ↓reduceIte, L11, L12, L13, L14, L15, L16, L30, L48, L160, K1, K2, K3, K4, K5, K7, K8, K9, K15, K17, K20, K27, K37, K48, K99, K255, inR, isPlace_r, isPlace_c, isSheet_r, s0, knows_r (show p < 6 by omega), e, bitsOf_r (show G 4 p < 256 by omega), bi]
      exact hi
theorem known_r (hR : RR m G) (hG : GO nt R G) : X10_knownAll m = some (nI (wyS G 9 (G 0 0)), m) := ka_r hR hG 10000 0 (Nat.zero_le _) (by have := hG.1; omega)
end
