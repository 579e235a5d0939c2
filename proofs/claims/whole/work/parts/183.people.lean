/-! calls: people -/
def cmN (v : Int32) : Nat := if v < nI 0 then 0 else 1
def pplA (G : Fo) (I : Nat → Int32) (a : Nat) : Nat → Nat × Fo
  | 0 => (0, G)
  | k + 1 => ((pplA G I a k).1 + cmN (perA (pplA G I a k).2 (I (a + 3 * k)) (I (a + 3 * k + 1)) (I (a + 3 * k + 2))).1, (perA (pplA G I a k).2 (I (a + 3 * k)) (I (a + 3 * k + 1)) (I (a + 3 * k + 2))).2)
section
variable {nt R a s sz cnt K : Nat} {I : Nat → Int32} {G : Fo}
theorem ppl_i (hG : GO nt R G) : ∀ k, GO nt R (pplA G I a k).2 ∧ (pplA G I a k).1 ≤ k ∧ G 0 0 ≤ (pplA G I a k).2 0 0 ∧ ∀ p, p < G 0 0 → (pplA G I a k).2 1 p = G 1 p := by
  intro k
  induction k with
  | zero => exact ⟨hG, Nat.le_refl _, Nat.le_refl _, fun _ _ => rfl⟩
  | succ k ih =>
    obtain ⟨i1, i2, i3, i4⟩ := ih
    obtain ⟨j1, j2, j3⟩ := perA_i (x := I (a + 3 * k)) (y := I (a + 3 * k + 1)) (w := I (a + 3 * k + 2)) i1
    refine ⟨j1, ?_, Nat.le_trans i3 j2, fun p hp => ?_⟩
    · rw [pplA]
      have : cmN (perA (pplA G I a k).2 (I (a + 3 * k)) (I (a + 3 * k + 1)) (I (a + 3 * k + 2))).1 ≤ 1 := by unfold cmN; split <;> omega
      omega
    · rw [pplA]; exact (j3 p (by omega)).trans (i4 p hp)
def stK (G : Fo) (I : Nat → Int32) (a cnt K : Nat) : Int32 := if K = cnt then nI (pplA G I a K).1 else -nI 12
theorem ppl_c (hG : GO nt R G) (hs : s < 4) (hz : sz ≤ 40) (hc : cnt ≤ 6) (hK : K ≤ cnt) (h1 : ∀ k, k < K → a + 3 * k + 3 ≤ sz) (h2 : K = cnt ∨ ¬ a + 3 * K + 3 ≤ sz) (ha : a ≤ 100) : ∀ n k m, k ≤ K → K - k < n → RF 5 m (pplA G I a k).2 → m.1 (55 + 2 * s) 1 = nI sz → (∀ j, j < sz → m.1 (55 + 2 * s + 1) j = I j) → ∃ m', X9_people_73 n (nI a) (nI cnt) (55 + 2 * s) (nI (pplA G I a k).1) (nI k) m = some (stK G I a cnt K, m') ∧ RF 5 m' (pplA G I a K).2 ∧ (∀ x j, ¬ (5 ≤ x ∧ x ≤ 11) → m'.1 x j = m.1 x j) ∧ m'.2 = m.2 := by
  intro n
  induction n with
  | zero => intro k m _ h; omega
  | succ n ih =>
    intro k m hk hn hR hsz hI
    rw [X9_people_73]
    by_cases hc1 : k = cnt
    · have hKc : K = cnt := by omega
      subst hKc
      subst hc1
      simp (disch := omega) only [leT, leF, ltT, ltF, eqT, eqF, inT, n_cl, nI_add, pk_mul, n_div, pk_sub, md8, md2, or_true, true_or, or_false, false_or, Bool.true_eq_false, Bool.false_eq_true, L0, L1, L2, L3, L4, L5, L6, L7, L8, L9, L10, L20, L31, L40, L64, L99, L100, L255, L256, L999, L1000, L99999, ↓reduceIte, L11, L12, L13, L14, L15, L16, L30, L48, L160, K1, K2, K3, K4, K5, K7, K8, K9, K15, K17, K20, K27, K37, K48, K99, K255, inR, isPlace_r, isPlace_c, isSheet_r]
      exact ⟨m, by unfold stK; rw [if_pos rfl], hR, fun _ _ _ => rfl, rfl⟩
    · have hh := has_c (x := nI (a + 3 * k)) (y := nI 3) hsz hz
      have e1 : (nI (a + 3 * k)).toInt = (a + 3 * k : Nat) := nI_toInt (by omega)
      have e2 : (nI 3).toInt = 3 := rfl
      by_cases hkK : k = K
      · subst hkK
        rw [show decide (0 ≤ (nI (a + 3 * k)).toInt ∧ 0 ≤ (nI 3).toInt ∧ (nI (a + 3 * k)).toInt + (nI 3).toInt ≤ sz) = false by rw [e1, e2]; simp; omega] at hh
        simp (disch := omega) only [leT, leF, ltT, ltF, eqT, eqF, inT, n_cl, nI_add, pk_mul, n_div, pk_sub, md8, md2, or_true, true_or, or_false, false_or, Bool.true_eq_false, Bool.false_eq_true, L0, L1, L2, L3, L4, L5, L6, L7, L8, L9, L10, L20, L31, L40, L64, L99, L100, L255, L256, L999, L1000, L99999, ↓reduceIte, L11, L12, L13, L14, L15, L16, L30, L48, L160, K1, K2, K3, K4, K5, K7, K8, K9, K15, K17, K20, K27, K37, K48, K99, K255, inR, isPlace_r, isPlace_c, isSheet_r, hh, bi, b01]
        exact ⟨m, by unfold stK; rw [if_neg hc1], hR, fun _ _ _ => rfl, rfl⟩
      · have hb := h1 k (by omega)
        rw [show decide (0 ≤ (nI (a + 3 * k)).toInt ∧ 0 ≤ (nI 3).toInt ∧ (nI (a + 3 * k)).toInt + (nI 3).toInt ≤ sz) = true by rw [e1, e2]; simp; omega] at hh
        obtain ⟨i1, i2, i3, i4⟩ := ppl_i (I := I) (a := a) hG k
        obtain ⟨m1, a1, a2, a3, a4⟩ := pers_c (I (a + 3 * k)) (I (a + 3 * k + 1)) (I (a + 3 * k + 2)) hR i1
        have q0 := hI (a + 3 * k) (by omega)
        have q1 := hI (a + 3 * k + 1) (by omega)
        have q2 := hI (a + 3 * k + 2) (by omega)
        obtain ⟨m2, b1, b2, b3, b4⟩ := ih (k + 1) m1 (by omega) (by omega) a2 (by rw [a3 _ _ (by omega)]; exact hsz) (fun j hj => by rw [a3 _ _ (by omega)]; exact hI j hj)
        have hcm : pplA G I a (k + 1) = ((pplA G I a k).1 + cmN (perA (pplA G I a k).2 (I (a + 3 * k)) (I (a + 3 * k + 1)) (I (a + 3 * k + 2))).1, (perA (pplA G I a k).2 (I (a + 3 * k)) (I (a + 3 * k + 1)) (I (a + 3 * k + 2))).2) := rfl
        rw [hcm] at b1
        unfold cmN at b1
        by_cases q : (perA (pplA G I a k).2 (I (a + 3 * k)) (I (a + 3 * k + 1)) (I (a + 3 * k + 2))).1 < nI 0
        · rw [if_pos q] at b1
          simp (disch := omega) only [leT, leF, ltT, ltF, eqT, eqF, inT, n_cl, nI_add, pk_mul, n_div, pk_sub, md8, md2, or_true, true_or, or_false, false_or, Bool.true_eq_false, Bool.false_eq_true, L0, L1, L2, L3, L4, L5, L6, L7, L8, L9, L10, L20, L31, L40, L64, L99, L100, L255, L256, L999, L1000, L99999, ↓reduceIte, L11, L12, L13, L14, L15, L16, L30, L48, L160, K1, K2, K3, K4, K5, K7, K8, K9, K15, K17, K20, K27, K37, K48, K99, K255, inR, isPlace_r, isPlace_c, isSheet_r, hh, bi, b01, q0, q1, q2, a1, q, X9_people_140]
          exact ⟨m2, b1, b2, fun x j h => by rw [b3 x j h, a3 x j h], by rw [b4, a4]⟩
        · rw [if_neg q] at b1
          simp (disch := omega) only [leT, leF, ltT, ltF, eqT, eqF, inT, n_cl, nI_add, pk_mul, n_div, pk_sub, md8, md2, or_true, true_or, or_false, false_or, Bool.true_eq_false, Bool.false_eq_true, L0, L1, L2, L3, L4, L5, L6, L7, L8, L9, L10, L20, L31, L40, L64, L99, L100, L255, L256, L999, L1000, L99999, ↓reduceIte, L11, L12, L13, L14, L15, L16, L30, L48, L160, K1, K2, K3, K4, K5, K7, K8, K9, K15, K17, K20, K27, K37, K48, K99, K255, inR, isPlace_r, isPlace_c, isSheet_r, hh, bi, b01, q0, q1, q2, a1, q, X9_people_140]
          exact ⟨m2, b1, b2, fun x j h => by rw [b3 x j h, a3 x j h], by rw [b4, a4]⟩
theorem ppl_r (hG : GO nt R G) (hs : s < 4) (hz : sz ≤ 40) (hc : cnt ≤ 6) (hK : K ≤ cnt) (h1 : ∀ k, k < K → a + 3 * k + 3 ≤ sz) (h2 : K = cnt ∨ ¬ a + 3 * K + 3 ≤ sz) (ha : a ≤ 100) : ∀ n k m, k ≤ K → K - k < n → RR m (pplA G I a k).2 → m.1 77 s = nI sz → (∀ j, j < sz → m.1 78 (40 * s + j) = I j) → ∃ m', X10_people_75 n (nI s) (nI a) (nI cnt) (nI (pplA G I a k).1) (nI k) m = some (stK G I a cnt K, m') ∧ RR m' (pplA G I a K).2 ∧ (∀ x j, ¬ (x = 63 ∧ j = 11) → x ≠ 68 → x ≠ 69 → m'.1 x j = m.1 x j) ∧ m'.2 = m.2 := by
  intro n
  induction n with
  | zero => intro k m _ h; omega
  | succ n ih =>
    intro k m hk hn hR hsz hI
    rw [X10_people_75]
    by_cases hc1 : k = cnt
    · have hKc : K = cnt := by omega
      subst hKc
      subst hc1
      simp (disch := omega) only [leT, leF, ltT, ltF, eqT, eqF, inT, n_cl, nI_add, pk_mul, n_div, pk_sub, md8, md2, or_true, true_or, or_false, false_or, Bool.true_eq_false, Bool.false_eq_true, L0, L1, L2, L3, L4, L5, L6, L7, L8, L9, L10, L20, L31, L40, L64, L99, L100, L255, L256, L999, L1000, L99999, ↓reduceIte, L11, L12, L13, L14, L15, L16, L30, L48, L160, K1, K2, K3, K4, K5, K7, K8, K9, K15, K17, K20, K27, K37, K48, K99, K255, inR, isPlace_r, isPlace_c, isSheet_r]
      exact ⟨m, by unfold stK; rw [if_pos rfl], hR, fun _ _ _ _ _ => rfl, rfl⟩
    · have s3 : (nI sz - nI (3 * k) - nI 3).toInt = (sz : Int) - 3 * k - 3 := by
        rw [Int32.toInt_sub, pk_sub_toInt (by omega) (by omega), show (nI 3).toInt = 3 from rfl, Int.bmod_eq_of_le (by omega) (by omega)]
        omega
      have e1 : (nI a).toInt = a := nI_toInt (by omega)
      by_cases hkK : k = K
      · subst hkK
        have lf : (nI a ≤ nI sz - nI (3 * k) - nI 3) = False := eq_false (fun q => by
          have := Int32.le_iff_toInt_le.mp q
          rw [e1, s3] at this
          omega)
        have hx : nI sz - nI (3 * k) - nI 3 = nI sz - nI (3 * k) - nI 3 := rfl
        generalize hV : nI sz - nI (3 * k) - nI 3 = V at lf
        simp only [L0, L1, L2, L3, L12, L40, pk_mul, hsz, inT hs (show s < 2147483648 by omega), n_cl (show s < 2147483648 by omega), hV, lf, leF (show cnt < 2147483648 by omega) (show k < cnt by omega), ltF (show a < 2147483648 by omega) (show 0 ≤ a by omega), ↓reduceIte]
        exact ⟨m, by unfold stK; rw [if_neg hc1], hR, fun _ _ _ _ _ => rfl, rfl⟩
      · have hb := h1 k (by omega)
        obtain ⟨i1, i2, i3, i4⟩ := ppl_i (I := I) (a := a) hG k
        obtain ⟨m1, a1, a2, a3, a4⟩ := pers_r (I (a + 3 * k)) (I (a + 3 * k + 1)) (I (a + 3 * k + 2)) hR i1
        have q0 := hI (a + 3 * k) (by omega)
        have q1 := hI (a + 3 * k + 1) (by omega)
        have q2 := hI (a + 3 * k + 2) (by omega)
        rw [show 40 * s + (a + 3 * k) = 40 * s + a + 3 * k by omega] at q0
        rw [show 40 * s + (a + 3 * k + 1) = 40 * s + a + 3 * k + 1 by omega] at q1
        rw [show 40 * s + (a + 3 * k + 2) = 40 * s + a + 3 * k + 2 by omega] at q2
        obtain ⟨m2, b1, b2, b3, b4⟩ := ih (k + 1) m1 (by omega) (by omega) a2 (by rw [a3 _ _ (by omega) (by omega) (by omega)]; exact hsz) (fun j hj => by rw [a3 _ _ (by omega) (by omega) (by omega)]; exact hI j hj)
        have hcm : pplA G I a (k + 1) = ((pplA G I a k).1 + cmN (perA (pplA G I a k).2 (I (a + 3 * k)) (I (a + 3 * k + 1)) (I (a + 3 * k + 2))).1, (perA (pplA G I a k).2 (I (a + 3 * k)) (I (a + 3 * k + 1)) (I (a + 3 * k + 2))).2) := rfl
        rw [hcm] at b1
        unfold cmN at b1
        by_cases q : (perA (pplA G I a k).2 (I (a + 3 * k)) (I (a + 3 * k + 1)) (I (a + 3 * k + 2))).1 < nI 0
        · rw [if_pos q] at b1
          simp (disch := omega) only [leT, leF, ltT, ltF, eqT, eqF, inT, n_cl, nI_add, pk_mul, n_div, pk_sub, md8, md2, or_true, true_or, or_false, false_or, Bool.true_eq_false, Bool.false_eq_true, L0, L1, L2, L3, L4, L5, L6, L7, L8, L9, L10, L20, L31, L40, L64, L99, L100, L255, L256, L999, L1000, L99999, ↓reduceIte, L11, L12, L13, L14, L15, L16, L30, L48, L160, K1, K2, K3, K4, K5, K7, K8, K9, K15, K17, K20, K27, K37, K48, K99, K255, inR, isPlace_r, isPlace_c, isSheet_r, hsz, bi, q0, q1, q2, a1, q, X10_people_158]
          exact ⟨m2, b1, b2, fun x j h1 h2 h3 => by rw [b3 x j h1 h2 h3, a3 x j h1 h2 h3], by rw [b4, a4]⟩
        · rw [if_neg q] at b1
          simp (disch := omega) only [leT, leF, ltT, ltF, eqT, eqF, inT, n_cl, nI_add, pk_mul, n_div, pk_sub, md8, md2, or_true, true_or, or_false, false_or, Bool.true_eq_false, Bool.false_eq_true, L0, L1, L2, L3, L4, L5, L6, L7, L8, L9, L10, L20, L31, L40, L64, L99, L100, L255, L256, L999, L1000, L99999, ↓reduceIte, L11, L12, L13, L14, L15, L16, L30, L48, L160, K1, K2, K3, K4, K5, K7, K8, K9, K15, K17, K20, K27, K37, K48, K99, K255, inR, isPlace_r, isPlace_c, isSheet_r, hsz, bi, q0, q1, q2, a1, q, X10_people_158]
          exact ⟨m2, b1, b2, fun x j h1 h2 h3 => by rw [b3 x j h1 h2 h3, a3 x j h1 h2 h3], by rw [b4, a4]⟩
theorem stK_ex (a sz cnt : Nat) : ∃ K, K ≤ cnt ∧ (∀ k, k < K → a + 3 * k + 3 ≤ sz) ∧ (K = cnt ∨ ¬ a + 3 * K + 3 ≤ sz) := by
  induction cnt with
  | zero => exact ⟨0, by omega, fun k hk => by omega, .inl rfl⟩
  | succ cnt ih =>
    obtain ⟨K, h1, h2, h3⟩ := ih
    by_cases q : a + 3 * K + 3 ≤ sz
    · have : K = cnt := by omega
      subst this
      exact ⟨K + 1, by omega, fun k hk => by
        by_cases y : k = K
        · rw [y]; exact q
        · exact h2 k (by omega), .inl rfl⟩
    · exact ⟨K, by omega, h2, .inr q⟩
end
theorem K6 : (6 : Int64) = lN 6 := rfl
section
variable {c nt : Nat} {z : Nat → Nat} {m : Mem} {cd : Nat → Cd} {r rk : Nat → Nat} {G H : Fo} {tp : Nat → Nat} {n ve : Nat}
theorem people_k {s so sz cnt : Nat} {a3 : Int32} (hv : ve ≤ c) (hE : CE cd r nt z ve m) (hW : IW cd r rk G H tp n nt m) (hs : s < 4) (t1 : SHt m s so sz) (hc : cnt ≤ 6) (hx : cnt = 0 ∨ ∃ a, a3 = nI a ∧ a + 3 ≤ sz) : ∃ (r : Int32) (m1 m2 : Mem), X9_people (nI s) (nI so) a3 (nI cnt) m = some (r, m1) ∧ X10_people (nI s) (nI so) a3 (nI cnt) m1 = some (r, m2) ∧ Iv (c + 1) nt z m2 := by
  have hW0 := hW
  obtain ⟨w1, w2, w3, w4, w5, w6, w7, w8⟩ := hW
  obtain ⟨g1, g2, g3, g4, g5, g6, g7, g8⟩ := t1
  have so1 := fun m' => shOf_c hs m'
  have hh := here_c (show so < 3 by omega) g3
  have i2 : inn (nI so) (2 + 1) = True := inT (by omega) (by omega)
  have i6 : inn (nI cnt) (6 + 1) = True := inT (by omega) (by omega)
  rcases hx with h0 | ⟨a, rfl, ha⟩
  · subst h0
    refine ⟨nI 0, m, m, ?_, ?_, Iv_0 hv hE hW0⟩
    · unfold X9_people X9_people_56 X9_people_73
      simp (disch := omega) only [leT, leF, ltT, ltF, eqT, eqF, inT, n_cl, nI_add, pk_mul, n_div, pk_sub, md8, md2, or_true, true_or, or_false, false_or, Bool.true_eq_false, Bool.false_eq_true, L0, L1, L2, L3, L4, L5, L6, L7, L8, L9, L10, L20, L31, L40, L64, L99, L100, L255, L256, L999, L1000, L99999, ↓reduceIte, L11, L12, L13, L14, L15, L16, L30, L48, L160, K1, K2, K3, K4, K5, K7, K8, K9, K15, K17, K20, K27, K37, K48, K99, K255, inR, isPlace_r, isPlace_c, isSheet_r, so1, bq, oq, bi, hh, g3]
    · unfold X10_people X10_people_57 X10_people_75
      simp (disch := omega) only [leT, leF, ltT, ltF, eqT, eqF, inT, n_cl, nI_add, pk_mul, n_div, pk_sub, md8, md2, or_true, true_or, or_false, false_or, Bool.true_eq_false, Bool.false_eq_true, L0, L1, L2, L3, L4, L5, L6, L7, L8, L9, L10, L20, L31, L40, L64, L99, L100, L255, L256, L999, L1000, L99999, ↓reduceIte, L11, L12, L13, L14, L15, L16, L30, L48, L160, K1, K2, K3, K4, K5, K7, K8, K9, K15, K17, K20, K27, K37, K48, K99, K255, inR, isPlace_r, isPlace_c, isSheet_r, K6, bi, g5, g6]
  · obtain ⟨K, k1, k2, k3⟩ := stK_ex a sz cnt
    obtain ⟨m1, x1, x2, x3, x4⟩ := ppl_c (I := fun j => m.1 (55 + 2 * s + 1) j) (G := G) w4 hs g2 hc k1 k2 k3 (by omega) 10000 0 m (Nat.zero_le _) (by omega) w2 g4 (fun _ _ => rfl)
    obtain ⟨m2, y1, y2, y3, y4⟩ := ppl_r (I := fun j => m.1 (55 + 2 * s + 1) j) (G := G) w4 hs g2 hc k1 k2 k3 (by omega) 10000 0 m1 (Nat.zero_le _) (by omega) (RR_f (fun x j h => x3 x j (by omega)) w3) (by rw [x3 _ _ (by omega)]; exact g7) (fun j hj => by
      rw [x3 _ _ (by omega)]
      show _ = m.1 (55 + 2 * s + 1) j
      rw [show 55 + 2 * s + 1 = 56 + 2 * s by omega]; exact (g8 j hj).symm)
    obtain ⟨i1, i2', i3, i4⟩ := ppl_i (I := fun j => m.1 (55 + 2 * s + 1) j) (a := a) w4 K
    have q5 : m1.1 75 s = nI 1 := by rw [x3 _ _ (by omega)]; exact g5
    have q6 : m1.1 76 s = nI so := by rw [x3 _ _ (by omega)]; exact g6
    have fr : FRf m1 m2 := fun x j q => ⟨y3 x j (by omega) (by omega) (by omega), by rw [y4]⟩
    refine ⟨stK G (fun j => m.1 (55 + 2 * s + 1) j) a cnt K, m1, m2, ?_, ?_, cd, r, rk, (pplA G (fun j => m.1 (55 + 2 * s + 1) j) a K).2, H, tp, n, ve, by omega, CE_rf fr (CE_g hE (fun x j h => x3 x j (by omega)) (fun x j _ _ => by rw [x4])), IW_fo hW0 (RF_rf fo5 fr x2) y2 i1 i3 i4 (fun x j h => ?_)⟩
    · unfold X9_people X9_people_56
      simp (disch := omega) only [leT, leF, ltT, ltF, eqT, eqF, inT, n_cl, nI_add, pk_mul, n_div, pk_sub, md8, md2, or_true, true_or, or_false, false_or, Bool.true_eq_false, Bool.false_eq_true, L0, L1, L2, L3, L4, L5, L6, L7, L8, L9, L10, L20, L31, L40, L64, L99, L100, L255, L256, L999, L1000, L99999, ↓reduceIte, L11, L12, L13, L14, L15, L16, L30, L48, L160, K1, K2, K3, K4, K5, K7, K8, K9, K15, K17, K20, K27, K37, K48, K99, K255, inR, isPlace_r, isPlace_c, isSheet_r, so1, bq, oq, bi, hh, g3]
      exact x1
    · unfold X10_people X10_people_57
      simp (disch := omega) only [leT, leF, ltT, ltF, eqT, eqF, inT, n_cl, nI_add, pk_mul, n_div, pk_sub, md8, md2, or_true, true_or, or_false, false_or, Bool.true_eq_false, Bool.false_eq_true, L0, L1, L2, L3, L4, L5, L6, L7, L8, L9, L10, L20, L31, L40, L64, L99, L100, L255, L256, L999, L1000, L99999, ↓reduceIte, L11, L12, L13, L14, L15, L16, L30, L48, L160, K1, K2, K3, K4, K5, K7, K8, K9, K15, K17, K20, K27, K37, K48, K99, K255, inR, isPlace_r, isPlace_c, isSheet_r, K6, bi, q5, q6]
      exact y1
    · unfold DuO at h
      rw [y3 x j (by omega) (by omega) (by omega), x3 x j (by omega)]
theorem people_x {s so sz cnt : Nat} {a3 : Int32} (hv : ve ≤ c) (hE : CE cd r nt z ve m) (hW : IW cd r rk G H tp n nt m) (hs : s < 4) (t1 : SHt m s so sz) (hc : cnt ≤ 6) (h0 : cnt ≠ 0) (hx : ¬ (0 ≤ a3.toInt ∧ a3.toInt + 3 ≤ sz)) : ∃ (r : Int32) (m1 m2 : Mem), X9_people (nI s) (nI so) a3 (nI cnt) m = some (r, m1) ∧ X10_people (nI s) (nI so) a3 (nI cnt) m1 = some (r, m2) ∧ Iv (c + 1) nt z m2 := by
  obtain ⟨g1, g2, g3, g4, g5, g6, g7, g8⟩ := t1
  have so1 := fun m' => shOf_c hs m'
  have hh := here_c (show so < 3 by omega) g3
  have z0 : a3 + nI 0 = a3 := Int32.add_zero a3
  refine ⟨-nI 12, m, m, ?_, ?_, Iv_0 hv hE hW⟩
  · have h1 := has_c (x := a3) (y := nI 3) g4 g2
    rw [show decide (0 ≤ a3.toInt ∧ 0 ≤ (nI 3).toInt ∧ a3.toInt + (nI 3).toInt ≤ sz) = false by rw [show (nI 3).toInt = 3 from rfl]; simp; omega] at h1
    unfold X9_people X9_people_56 X9_people_73
    simp (disch := omega) only [leT, leF, ltT, ltF, eqT, eqF, inT, n_cl, nI_add, pk_mul, n_div, pk_sub, md8, md2, or_true, true_or, or_false, false_or, Bool.true_eq_false, Bool.false_eq_true, L0, L1, L2, L3, L4, L5, L6, L7, L8, L9, L10, L20, L31, L40, L64, L99, L100, L255, L256, L999, L1000, L99999, ↓reduceIte, L11, L12, L13, L14, L15, L16, L30, L48, L160, K1, K2, K3, K4, K5, K7, K8, K9, K15, K17, K20, K27, K37, K48, K99, K255, inR, isPlace_r, isPlace_c, isSheet_r, so1, bq, oq, bi, hh, g3, Nat.mul_zero, z0, h1, b01]
  · unfold X10_people X10_people_57 X10_people_75
    by_cases q : a3.toInt < 0
    · simp (disch := omega) only [leT, leF, ltT, ltF, eqT, eqF, inT, n_cl, nI_add, pk_mul, n_div, pk_sub, md8, md2, or_true, true_or, or_false, false_or, Bool.true_eq_false, Bool.false_eq_true, L0, L1, L2, L3, L4, L5, L6, L7, L8, L9, L10, L20, L31, L40, L64, L99, L100, L255, L256, L999, L1000, L99999, ↓reduceIte, L11, L12, L13, L14, L15, L16, L30, L48, L160, K1, K2, K3, K4, K5, K7, K8, K9, K15, K17, K20, K27, K37, K48, K99, K255, inR, isPlace_r, isPlace_c, isSheet_r, K6, bi, g5, g6, lt0_i, q]
    · have s3 : (nI sz - nI 0 - nI 3).toInt = (sz : Int) - 3 := by
        rw [Int32.toInt_sub, pk_sub_toInt (by omega) (by omega), show (nI 3).toInt = 3 from rfl, Int.bmod_eq_of_le (by omega) (by omega)]
        omega
      have lf : (a3 ≤ nI sz - nI 0 - nI 3) = False := eq_false (fun q => by
        have := Int32.le_iff_toInt_le.mp q
        rw [s3] at this
        omega)
      have e0 : nI sz - nI 0 = nI sz := by rw [pk_sub (by omega)]; rfl
      rw [e0] at lf
      have hj : ∀ x, nI x - nI 3 = nI x - nI 3 := fun _ => rfl
      by_cases q3 : 3 ≤ sz
      · rw [pk_sub q3] at lf
        simp (disch := omega) only [leT, leF, ltT, ltF, eqT, eqF, inT, n_cl, nI_add, pk_mul, n_div, pk_sub, md8, md2, or_true, true_or, or_false, false_or, Bool.true_eq_false, Bool.false_eq_true, L0, L1, L2, L3, L4, L5, L6, L7, L8, L9, L10, L20, L31, L40, L64, L99, L100, L255, L256, L999, L1000, L99999, ↓reduceIte, L11, L12, L13, L14, L15, L16, L30, L48, L160, K1, K2, K3, K4, K5, K7, K8, K9, K15, K17, K20, K27, K37, K48, K99, K255, inR, isPlace_r, isPlace_c, isSheet_r, K6, bi, g5, g6, g7, lt0_i, q, Nat.mul_zero, Nat.sub_zero, lf]
      · simp (disch := omega) only [leT, leF, ltT, ltF, eqT, eqF, inT, n_cl, nI_add, pk_mul, n_div, pk_sub, md8, md2, or_true, true_or, or_false, false_or, Bool.true_eq_false, Bool.false_eq_true, L0, L1, L2, L3, L4, L5, L6, L7, L8, L9, L10, L20, L31, L40, L64, L99, L100, L255, L256, L999, L1000, L99999, ↓reduceIte, L11, L12, L13, L14, L15, L16, L30, L48, L160, K1, K2, K3, K4, K5, K7, K8, K9, K15, K17, K20, K27, K37, K48, K99, K255, inR, isPlace_r, isPlace_c, isSheet_r, K6, bi, g5, g6, g7, lt0_i, q, Nat.mul_zero, Nat.sub_zero, lf]
end
theorem o_people : ob_people Iv := by
  rintro c nt z m a1 a2 a3 a4 hc ⟨cd, r, rk, G, H, tp, n, ve, hv, hE, hW⟩
  have bad : Iv (c + 1) nt z m := Iv_0 hv hE hW
  have w8 := hW.2.2.2.2.2.2.2
  rcases dich a1 4 (by decide) with ⟨s, hs, rfl⟩ | d
  · have so1 := fun m' => shOf_c hs m'
    rcases dich a2 3 (by decide) with ⟨so, ho, rfl⟩ | ⟨d0, d1 | ⟨d1, d2, d3, d4⟩⟩
    · rcases dich a4 7 (by decide) with ⟨cnt, hcnt, rfl⟩ | ⟨d0, d1 | ⟨d1, d2, d3, d4⟩⟩
      · rcases w8 s hs with ⟨u1, u2⟩ | ⟨so', sz, t1⟩
        · refine ⟨-nI 11, m, m, ?_, ?_, bad⟩
          · unfold X9_people X9_people_56
            simp (disch := omega) only [leT, leF, ltT, ltF, eqT, eqF, inT, n_cl, nI_add, pk_mul, n_div, pk_sub, md8, md2, or_true, true_or, or_false, false_or, Bool.true_eq_false, Bool.false_eq_true, L0, L1, L2, L3, L4, L5, L6, L7, L8, L9, L10, L20, L31, L40, L64, L99, L100, L255, L256, L999, L1000, L99999, ↓reduceIte, L11, L12, L13, L14, L15, L16, L30, L48, L160, K1, K2, K3, K4, K5, K7, K8, K9, K15, K17, K20, K27, K37, K48, K99, K255, inR, isPlace_r, isPlace_c, isSheet_r, so1, bq, oq, bi, miss_c u1]
          · unfold X10_people X10_people_57
            simp (disch := omega) only [leT, leF, ltT, ltF, eqT, eqF, inT, n_cl, nI_add, pk_mul, n_div, pk_sub, md8, md2, or_true, true_or, or_false, false_or, Bool.true_eq_false, Bool.false_eq_true, L0, L1, L2, L3, L4, L5, L6, L7, L8, L9, L10, L20, L31, L40, L64, L99, L100, L255, L256, L999, L1000, L99999, ↓reduceIte, L11, L12, L13, L14, L15, L16, L30, L48, L160, K1, K2, K3, K4, K5, K7, K8, K9, K15, K17, K20, K27, K37, K48, K99, K255, inR, isPlace_r, isPlace_c, isSheet_r, K6, bi, u2]
        · by_cases hso : so' = so
          · subst hso
            have g2 := t1.2.1
            by_cases h0 : cnt = 0
            · exact people_k hv hE hW hs t1 (by omega) (.inl h0)
            · by_cases q : 0 ≤ a3.toInt ∧ a3.toInt + 3 ≤ sz
              · obtain ⟨a, e1, e2, rfl⟩ := toI q.1
                exact people_k hv hE hW hs t1 (by omega) (.inr ⟨a, rfl, by omega⟩)
              · exact people_x hv hE hW hs t1 (by omega) h0 q
          · obtain ⟨g1, g2, g3, g4, g5, g6, g7, g8⟩ := t1
            refine ⟨-nI 13, m, m, ?_, ?_, bad⟩
            · unfold X9_people
              simp (disch := omega) only [leT, leF, ltT, ltF, eqT, eqF, inT, n_cl, nI_add, pk_mul, n_div, pk_sub, md8, md2, or_true, true_or, or_false, false_or, Bool.true_eq_false, Bool.false_eq_true, L0, L1, L2, L3, L4, L5, L6, L7, L8, L9, L10, L20, L31, L40, L64, L99, L100, L255, L256, L999, L1000, L99999, ↓reduceIte, L11, L12, L13, L14, L15, L16, L30, L48, L160, K1, K2, K3, K4, K5, K7, K8, K9, K15, K17, K20, K27, K37, K48, K99, K255, inR, isPlace_r, isPlace_c, isSheet_r, so1, bq, oq, bi, here_c (show so' < 3 by omega) g3, g3]
            · unfold X10_people
              simp (disch := omega) only [leT, leF, ltT, ltF, eqT, eqF, inT, n_cl, nI_add, pk_mul, n_div, pk_sub, md8, md2, or_true, true_or, or_false, false_or, Bool.true_eq_false, Bool.false_eq_true, L0, L1, L2, L3, L4, L5, L6, L7, L8, L9, L10, L20, L31, L40, L64, L99, L100, L255, L256, L999, L1000, L99999, ↓reduceIte, L11, L12, L13, L14, L15, L16, L30, L48, L160, K1, K2, K3, K4, K5, K7, K8, K9, K15, K17, K20, K27, K37, K48, K99, K255, inR, isPlace_r, isPlace_c, isSheet_r, K6, bi, g5, g6]
      · refine ⟨-nI 2, m, m, ?_, ?_, bad⟩
        · unfold X9_people
          simp (disch := omega) only [leT, leF, ltT, ltF, eqT, eqF, inT, n_cl, nI_add, pk_mul, n_div, pk_sub, md8, md2, or_true, true_or, or_false, false_or, Bool.true_eq_false, Bool.false_eq_true, L0, L1, L2, L3, L4, L5, L6, L7, L8, L9, L10, L20, L31, L40, L64, L99, L100, L255, L256, L999, L1000, L99999, ↓reduceIte, L11, L12, L13, L14, L15, L16, L30, L48, L160, K1, K2, K3, K4, K5, K7, K8, K9, K15, K17, K20, K27, K37, K48, K99, K255, inR, isPlace_r, isPlace_c, isSheet_r, so1, bq, oq, d1]
        · unfold X10_people
          simp (disch := omega) only [leT, leF, ltT, ltF, eqT, eqF, inT, n_cl, nI_add, pk_mul, n_div, pk_sub, md8, md2, or_true, true_or, or_false, false_or, Bool.true_eq_false, Bool.false_eq_true, L0, L1, L2, L3, L4, L5, L6, L7, L8, L9, L10, L20, L31, L40, L64, L99, L100, L255, L256, L999, L1000, L99999, ↓reduceIte, L11, L12, L13, L14, L15, L16, L30, L48, L160, K1, K2, K3, K4, K5, K7, K8, K9, K15, K17, K20, K27, K37, K48, K99, K255, inR, isPlace_r, isPlace_c, isSheet_r, K6, bi, d0]
      · refine ⟨-nI 2, m, m, ?_, ?_, bad⟩
        · unfold X9_people
          simp (disch := omega) only [leT, leF, ltT, ltF, eqT, eqF, inT, n_cl, nI_add, pk_mul, n_div, pk_sub, md8, md2, or_true, true_or, or_false, false_or, Bool.true_eq_false, Bool.false_eq_true, L0, L1, L2, L3, L4, L5, L6, L7, L8, L9, L10, L20, L31, L40, L64, L99, L100, L255, L256, L999, L1000, L99999, ↓reduceIte, L11, L12, L13, L14, L15, L16, L30, L48, L160, K1, K2, K3, K4, K5, K7, K8, K9, K15, K17, K20, K27, K37, K48, K99, K255, inR, isPlace_r, isPlace_c, isSheet_r, so1, bq, oq, d1, d4 6 (by decide)]
        · unfold X10_people
          simp (disch := omega) only [leT, leF, ltT, ltF, eqT, eqF, inT, n_cl, nI_add, pk_mul, n_div, pk_sub, md8, md2, or_true, true_or, or_false, false_or, Bool.true_eq_false, Bool.false_eq_true, L0, L1, L2, L3, L4, L5, L6, L7, L8, L9, L10, L20, L31, L40, L64, L99, L100, L255, L256, L999, L1000, L99999, ↓reduceIte, L11, L12, L13, L14, L15, L16, L30, L48, L160, K1, K2, K3, K4, K5, K7, K8, K9, K15, K17, K20, K27, K37, K48, K99, K255, inR, isPlace_r, isPlace_c, isSheet_r, K6, bi, d0]
    · refine ⟨-nI 2, m, m, ?_, ?_, bad⟩
      · unfold X9_people
        simp (disch := omega) only [leT, leF, ltT, ltF, eqT, eqF, inT, n_cl, nI_add, pk_mul, n_div, pk_sub, md8, md2, or_true, true_or, or_false, false_or, Bool.true_eq_false, Bool.false_eq_true, L0, L1, L2, L3, L4, L5, L6, L7, L8, L9, L10, L20, L31, L40, L64, L99, L100, L255, L256, L999, L1000, L99999, ↓reduceIte, L11, L12, L13, L14, L15, L16, L30, L48, L160, K1, K2, K3, K4, K5, K7, K8, K9, K15, K17, K20, K27, K37, K48, K99, K255, inR, isPlace_r, isPlace_c, isSheet_r, so1, bq, oq, d1]
      · unfold X10_people
        simp (disch := omega) only [leT, leF, ltT, ltF, eqT, eqF, inT, n_cl, nI_add, pk_mul, n_div, pk_sub, md8, md2, or_true, true_or, or_false, false_or, Bool.true_eq_false, Bool.false_eq_true, L0, L1, L2, L3, L4, L5, L6, L7, L8, L9, L10, L20, L31, L40, L64, L99, L100, L255, L256, L999, L1000, L99999, ↓reduceIte, L11, L12, L13, L14, L15, L16, L30, L48, L160, K1, K2, K3, K4, K5, K7, K8, K9, K15, K17, K20, K27, K37, K48, K99, K255, inR, isPlace_r, isPlace_c, isSheet_r, bi, d0]
    · have d5 : (nI 2 < a2) = True := eq_true (by
        have h1 : ¬ a2 ≤ nI 2 := by rw [d4 2 (by decide)]; exact fun q => q
        apply Int32.lt_iff_toInt_lt.mpr
        rcases Int.lt_or_le (nI 2).toInt a2.toInt with q | q
        · exact q
        · exact absurd (Int32.le_iff_toInt_le.mpr q) h1)
      refine ⟨-nI 2, m, m, ?_, ?_, bad⟩
      · unfold X9_people
        simp (disch := omega) only [leT, leF, ltT, ltF, eqT, eqF, inT, n_cl, nI_add, pk_mul, n_div, pk_sub, md8, md2, or_true, true_or, or_false, false_or, Bool.true_eq_false, Bool.false_eq_true, L0, L1, L2, L3, L4, L5, L6, L7, L8, L9, L10, L20, L31, L40, L64, L99, L100, L255, L256, L999, L1000, L99999, ↓reduceIte, L11, L12, L13, L14, L15, L16, L30, L48, L160, K1, K2, K3, K4, K5, K7, K8, K9, K15, K17, K20, K27, K37, K48, K99, K255, inR, isPlace_r, isPlace_c, isSheet_r, so1, bq, oq, d1, d5]
      · unfold X10_people
        simp (disch := omega) only [leT, leF, ltT, ltF, eqT, eqF, inT, n_cl, nI_add, pk_mul, n_div, pk_sub, md8, md2, or_true, true_or, or_false, false_or, Bool.true_eq_false, Bool.false_eq_true, L0, L1, L2, L3, L4, L5, L6, L7, L8, L9, L10, L20, L31, L40, L64, L99, L100, L255, L256, L999, L1000, L99999, ↓reduceIte, L11, L12, L13, L14, L15, L16, L30, L48, L160, K1, K2, K3, K4, K5, K7, K8, K9, K15, K17, K20, K27, K37, K48, K99, K255, inR, isPlace_r, isPlace_c, isSheet_r, bi, d0]
  · refine ⟨-nI 2, m, m, ?_, ?_, bad⟩
    · unfold X9_people
      simp (disch := omega) only [leT, leF, ltT, ltF, eqT, eqF, inT, n_cl, nI_add, pk_mul, n_div, pk_sub, md8, md2, or_true, true_or, or_false, false_or, Bool.true_eq_false, Bool.false_eq_true, L0, L1, L2, L3, L4, L5, L6, L7, L8, L9, L10, L20, L31, L40, L64, L99, L100, L255, L256, L999, L1000, L99999, ↓reduceIte, L11, L12, L13, L14, L15, L16, L30, L48, L160, K1, K2, K3, K4, K5, K7, K8, K9, K15, K17, K20, K27, K37, K48, K99, K255, inR, isPlace_r, isPlace_c, isSheet_r, shOf_n d, bq, oq]
    · unfold X10_people
      simp (disch := omega) only [leT, leF, ltT, ltF, eqT, eqF, inT, n_cl, nI_add, pk_mul, n_div, pk_sub, md8, md2, or_true, true_or, or_false, false_or, Bool.true_eq_false, Bool.false_eq_true, L0, L1, L2, L3, L4, L5, L6, L7, L8, L9, L10, L20, L31, L40, L64, L99, L100, L255, L256, L999, L1000, L99999, ↓reduceIte, L11, L12, L13, L14, L15, L16, L30, L48, L160, K1, K2, K3, K4, K5, K7, K8, K9, K15, K17, K20, K27, K37, K48, K99, K255, inR, isPlace_r, isPlace_c, isSheet_r, bi, d.1]
