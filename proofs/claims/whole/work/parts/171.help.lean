/-! calls: helpers -/
theorem L11 : (11 : Int32) = nI 11 := rfl
theorem L12 : (12 : Int32) = nI 12 := rfl
theorem L13 : (13 : Int32) = nI 13 := rfl
theorem L14 : (14 : Int32) = nI 14 := rfl
theorem L15 : (15 : Int32) = nI 15 := rfl
theorem L16 : (16 : Int32) = nI 16 := rfl
theorem L30 : (30 : Int32) = nI 30 := rfl
theorem L48 : (48 : Int32) = nI 48 := rfl
theorem L160 : (160 : Int32) = nI 160 := rfl
theorem K1 : (1 : Int64) = lN 1 := rfl
theorem K2 : (2 : Int64) = lN 2 := rfl
theorem K3 : (3 : Int64) = lN 3 := rfl
theorem K4 : (4 : Int64) = lN 4 := rfl
theorem K5 : (5 : Int64) = lN 5 := rfl
theorem K7 : (7 : Int64) = lN 7 := rfl
theorem K8 : (8 : Int64) = lN 8 := rfl
theorem K9 : (9 : Int64) = lN 9 := rfl
theorem K15 : (15 : Int64) = lN 15 := rfl
theorem K17 : (17 : Int64) = lN 17 := rfl
theorem K20 : (20 : Int64) = lN 20 := rfl
theorem K27 : (27 : Int64) = lN 27 := rfl
theorem K37 : (37 : Int64) = lN 37 := rfl
theorem K48 : (48 : Int64) = lN 48 := rfl
theorem K99 : (99 : Int64) = lN 99 := rfl
theorem K255 : (255 : Int64) = lN 255 := rfl
theorem inR (x : Int32) {k : Nat} (hk : k < 1000000) (m : Mem) : X10_in x.toInt64 (0 : Int64) (lN k) m = some (if inn x (k + 1) then nI 1 else nI 0, m) := by
  rw [in_s]
  congr 2
  have e0 : (0 : Int64).toInt = 0 := rfl
  have e1 : (x.toInt64).toInt = x.toInt := Int32.toInt_toInt64 x
  have e2 : (lN k).toInt = k := pk_lT (by omega)
  rw [e0, e1, e2]
  by_cases h : inn x (k + 1)
  · rw [if_pos h, if_pos]; rfl
    have := inn_i.mp h; omega
  · rw [if_neg h, if_neg]; rfl
    intro q; apply h; rw [inn_i]; omega
def OutR (x : Int32) (n : Nat) : Prop := inn x n = False ∧ ((x < nI 0) = True ∨ ((x < nI 0) = False ∧ (nI 0 ≤ x) = True ∧ (x < nI n) = False ∧ ∀ k, k < n → (x ≤ nI k) = False))
theorem dich (x : Int32) (n : Nat) (hn : n < 2147483648) : (∃ j, j < n ∧ x = nI j) ∨ OutR x n := by
  by_cases h : inn x n
  · exact .inl (inn_ex h hn)
  · right
    refine ⟨eq_false h, ?_⟩
    by_cases q : x < nI 0
    · exact .inl (eq_true q)
    · right
      have hq : ¬ x.toInt < 0 := fun y => q (Int32.lt_iff_toInt_lt.mpr y)
      have hb : (n : Int) ≤ x.toInt := by
        rcases Int.lt_or_le x.toInt n with y | y
        · exact absurd (inn_i.mpr ⟨by omega, y⟩) h
        · exact y
      refine ⟨eq_false q, eq_true (Int32.le_iff_toInt_le.mpr (by rw [show (nI 0).toInt = 0 from rfl]; omega)), eq_false (fun y => ?_), fun k hk => eq_false (fun y => ?_)⟩
      · have := Int32.lt_iff_toInt_lt.mp y
        rw [nI_toInt hn] at this
        omega
      · have := Int32.le_iff_toInt_le.mp y
        rw [nI_toInt (by omega)] at this
        omega
theorem fo5 : isFo 5 := .inl rfl
theorem fo16 : isFo 16 := .inr (.inl rfl)
theorem fo23 : isFo 23 := .inr (.inr rfl)
theorem GO_up {nt R R' : Nat} {G : Fo} (h : R ≤ R') (g : GO nt R G) : GO nt R' G := ⟨g.1, by have := g.2.1; omega, g.2.2⟩
section
variable {c nt : Nat} {z : Nat → Nat} {m : Mem} {cd : Nat → Cd} {r rk : Nat → Nat} {G H : Fo} {tp : Nat → Nat} {n ve : Nat}
theorem Iv_0 (hv : ve ≤ c) (hE : CE cd r nt z ve m) (hW : IW cd r rk G H tp n nt m) : Iv (c + 1) nt z m := ⟨cd, r, rk, G, H, tp, n, ve, by omega, hE, hW⟩
end
theorem o_idle : ob_idle Iv := by
  rintro c nt z m ⟨cd, r, rk, G, H, tp, n, ve, hv, hE, hW⟩
  exact Iv_0 hv hE hW
theorem o_pays : ob_pays Iv := by
  rintro c nt z m a1 a2 a3 hc ⟨cd, r, rk, G, H, tp, n, ve, hv, hE, hW⟩
  have hW0 := hW
  obtain ⟨w1, w2, w3, w4, w5, w6, w7, w8⟩ := hW
  have g0 := w4.1
  have pc := fun x => isPerson_c g0 x m (w2.1 0 (by decide))
  have pr := fun x => isOne_r g0 x m w3.1
  unfold X9_pays X10_pays
  have bad : Iv (c + 1) nt z m := Iv_0 hv hE hW0
  rcases dich a1 (G 0 0) (by omega) with ⟨a, ha, rfl⟩ | d1
  · rcases dich a2 (G 0 0) (by omega) with ⟨b, hb, rfl⟩ | d2
    · by_cases hab : a = b
      · simp (disch := omega) only [leT, leF, ltT, ltF, eqT, eqF, inT, n_cl, nI_add, pk_mul, n_div, pk_sub, md8, md2, or_true, true_or, or_false, false_or, Bool.true_eq_false, Bool.false_eq_true, L0, L1, L2, L3, L4, L5, L6, L7, L8, L9, L10, L20, L31, L40, L64, L99, L100, L255, L256, L999, L1000, L99999, ↓reduceIte, L11, L12, L13, L14, L15, L16, L30, L48, L160, K1, K2, K3, K4, K5, K7, K8, K9, K15, K17, K20, K27, K37, K48, K99, K255, inR, isPlace_r, isPlace_c, isSheet_r, pc, pr, bi]
        exact ⟨_, _, _, rfl, by simp (disch := omega) only [leT, leF, ltT, ltF, eqT, eqF, inT, n_cl, nI_add, pk_mul, n_div, pk_sub, md8, md2, or_true, true_or, or_false, false_or, Bool.true_eq_false, Bool.false_eq_true, L0, L1, L2, L3, L4, L5, L6, L7, L8, L9, L10, L20, L31, L40, L64, L99, L100, L255, L256, L999, L1000, L99999, ↓reduceIte, L11, L12, L13, L14, L15, L16, L30, L48, L160, K1, K2, K3, K4, K5, K7, K8, K9, K15, K17, K20, K27, K37, K48, K99, K255, inR, isPlace_r, isPlace_c, isSheet_r, pr, bi], bad⟩
      · rcases dich a3 8 (by decide) with ⟨t, ht, rfl⟩ | d3
        · obtain ⟨m1, x1, x2, x3⟩ := pay_c (a := a) (b := b) (t := t) hE w2 (GO_up (by decide) w4) fo5 (by omega) (by omega)
          have W1 := IW_s (SF_x x3) hW0
          obtain ⟨m2, y1, y2⟩ := pay_r (a := a) (b := b) (t := t) W1.1 W1.2.2.1 w4 ha hb
          have pr1 := fun x => isOne_r g0 x m1 W1.2.2.1.1
          simp (disch := omega) only [leT, leF, ltT, ltF, eqT, eqF, inT, n_cl, nI_add, pk_mul, n_div, pk_sub, md8, md2, or_true, true_or, or_false, false_or, Bool.true_eq_false, Bool.false_eq_true, L0, L1, L2, L3, L4, L5, L6, L7, L8, L9, L10, L20, L31, L40, L64, L99, L100, L255, L256, L999, L1000, L99999, ↓reduceIte, L11, L12, L13, L14, L15, L16, L30, L48, L160, K1, K2, K3, K4, K5, K7, K8, K9, K15, K17, K20, K27, K37, K48, K99, K255, inR, isPlace_r, isPlace_c, isSheet_r, pc, bi, x1]
          exact ⟨_, _, _, rfl, by simp (disch := omega) only [leT, leF, ltT, ltF, eqT, eqF, inT, n_cl, nI_add, pk_mul, n_div, pk_sub, md8, md2, or_true, true_or, or_false, false_or, Bool.true_eq_false, Bool.false_eq_true, L0, L1, L2, L3, L4, L5, L6, L7, L8, L9, L10, L20, L31, L40, L64, L99, L100, L255, L256, L999, L1000, L99999, ↓reduceIte, L11, L12, L13, L14, L15, L16, L30, L48, L160, K1, K2, K3, K4, K5, K7, K8, K9, K15, K17, K20, K27, K37, K48, K99, K255, inR, isPlace_r, isPlace_c, isSheet_r, pr1, bi, y1], Iv_q hv x2 W1 (SF_a y2) (FRf_a y2)⟩
        · simp (disch := omega) only [leT, leF, ltT, ltF, eqT, eqF, inT, n_cl, nI_add, pk_mul, n_div, pk_sub, md8, md2, or_true, true_or, or_false, false_or, Bool.true_eq_false, Bool.false_eq_true, L0, L1, L2, L3, L4, L5, L6, L7, L8, L9, L10, L20, L31, L40, L64, L99, L100, L255, L256, L999, L1000, L99999, ↓reduceIte, L11, L12, L13, L14, L15, L16, L30, L48, L160, K1, K2, K3, K4, K5, K7, K8, K9, K15, K17, K20, K27, K37, K48, K99, K255, inR, isPlace_r, isPlace_c, isSheet_r, pc, bi, d3.1]
          exact ⟨_, _, _, rfl, by simp (disch := omega) only [leT, leF, ltT, ltF, eqT, eqF, inT, n_cl, nI_add, pk_mul, n_div, pk_sub, md8, md2, or_true, true_or, or_false, false_or, Bool.true_eq_false, Bool.false_eq_true, L0, L1, L2, L3, L4, L5, L6, L7, L8, L9, L10, L20, L31, L40, L64, L99, L100, L255, L256, L999, L1000, L99999, ↓reduceIte, L11, L12, L13, L14, L15, L16, L30, L48, L160, K1, K2, K3, K4, K5, K7, K8, K9, K15, K17, K20, K27, K37, K48, K99, K255, inR, isPlace_r, isPlace_c, isSheet_r, pr, bi, d3.1], bad⟩
    · simp (disch := omega) only [leT, leF, ltT, ltF, eqT, eqF, inT, n_cl, nI_add, pk_mul, n_div, pk_sub, md8, md2, or_true, true_or, or_false, false_or, Bool.true_eq_false, Bool.false_eq_true, L0, L1, L2, L3, L4, L5, L6, L7, L8, L9, L10, L20, L31, L40, L64, L99, L100, L255, L256, L999, L1000, L99999, ↓reduceIte, L11, L12, L13, L14, L15, L16, L30, L48, L160, K1, K2, K3, K4, K5, K7, K8, K9, K15, K17, K20, K27, K37, K48, K99, K255, inR, isPlace_r, isPlace_c, isSheet_r, pc, bi, d2.1]
      exact ⟨_, _, _, rfl, by simp (disch := omega) only [leT, leF, ltT, ltF, eqT, eqF, inT, n_cl, nI_add, pk_mul, n_div, pk_sub, md8, md2, or_true, true_or, or_false, false_or, Bool.true_eq_false, Bool.false_eq_true, L0, L1, L2, L3, L4, L5, L6, L7, L8, L9, L10, L20, L31, L40, L64, L99, L100, L255, L256, L999, L1000, L99999, ↓reduceIte, L11, L12, L13, L14, L15, L16, L30, L48, L160, K1, K2, K3, K4, K5, K7, K8, K9, K15, K17, K20, K27, K37, K48, K99, K255, inR, isPlace_r, isPlace_c, isSheet_r, pr, bi, d2.1], bad⟩
  · simp (disch := omega) only [leT, leF, ltT, ltF, eqT, eqF, inT, n_cl, nI_add, pk_mul, n_div, pk_sub, md8, md2, or_true, true_or, or_false, false_or, Bool.true_eq_false, Bool.false_eq_true, L0, L1, L2, L3, L4, L5, L6, L7, L8, L9, L10, L20, L31, L40, L64, L99, L100, L255, L256, L999, L1000, L99999, ↓reduceIte, L11, L12, L13, L14, L15, L16, L30, L48, L160, K1, K2, K3, K4, K5, K7, K8, K9, K15, K17, K20, K27, K37, K48, K99, K255, inR, isPlace_r, isPlace_c, isSheet_r, pc, bi, d1.1]
    exact ⟨_, _, _, rfl, by simp (disch := omega) only [leT, leF, ltT, ltF, eqT, eqF, inT, n_cl, nI_add, pk_mul, n_div, pk_sub, md8, md2, or_true, true_or, or_false, false_or, Bool.true_eq_false, Bool.false_eq_true, L0, L1, L2, L3, L4, L5, L6, L7, L8, L9, L10, L20, L31, L40, L64, L99, L100, L255, L256, L999, L1000, L99999, ↓reduceIte, L11, L12, L13, L14, L15, L16, L30, L48, L160, K1, K2, K3, K4, K5, K7, K8, K9, K15, K17, K20, K27, K37, K48, K99, K255, inR, isPlace_r, isPlace_c, isSheet_r, pr, bi, d1.1], bad⟩
