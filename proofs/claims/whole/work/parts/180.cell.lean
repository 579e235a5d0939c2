/-! calls: cell, copy -/
theorem toI {x : Int32} (h : 0 ≤ x.toInt) : ∃ k : Nat, (k : Int) = x.toInt ∧ k < 2147483648 ∧ x = nI k := by
  have hlt := Int32.toInt_lt x
  refine ⟨x.toInt.toNat, by omega, by omega, ?_⟩
  apply Int32.toInt_inj.mp
  rw [nI_toInt (by omega)]
  omega
theorem lt0_i {x : Int32} : (x < nI 0) = (x.toInt < 0) := propext (by rw [Int32.lt_iff_toInt_lt]; exact Iff.rfl)
theorem has_c {s sz : Nat} {x y : Int32} {m : Mem} (h : m.1 s 1 = nI sz) (hz : sz ≤ 40) : X6_has s x y m = some (nI (b01 (decide (0 ≤ x.toInt ∧ 0 ≤ y.toInt ∧ x.toInt + y.toInt ≤ sz))), m) := by
  unfold X6_has
  by_cases hx : x.toInt < 0
  · simp (disch := omega) only [leT, leF, ltT, ltF, eqT, eqF, inT, n_cl, nI_add, pk_mul, n_div, pk_sub, md8, md2, or_true, true_or, or_false, false_or, Bool.true_eq_false, Bool.false_eq_true, L0, L1, L2, L3, L4, L5, L6, L7, L8, L9, L10, L20, L31, L40, L64, L99, L100, L255, L256, L999, L1000, L99999, ↓reduceIte, L11, L12, L13, L14, L15, L16, L30, L48, L160, K1, K2, K3, K4, K5, K7, K8, K9, K15, K17, K20, K27, K37, K48, K99, K255, inR, isPlace_r, isPlace_c, isSheet_r, lt0_i, hx, show ¬ (0 ≤ x.toInt ∧ 0 ≤ y.toInt ∧ x.toInt + y.toInt ≤ sz) by omega, decide_false, b01]
  · by_cases hy : y.toInt < 0
    · simp (disch := omega) only [leT, leF, ltT, ltF, eqT, eqF, inT, n_cl, nI_add, pk_mul, n_div, pk_sub, md8, md2, or_true, true_or, or_false, false_or, Bool.true_eq_false, Bool.false_eq_true, L0, L1, L2, L3, L4, L5, L6, L7, L8, L9, L10, L20, L31, L40, L64, L99, L100, L255, L256, L999, L1000, L99999, ↓reduceIte, L11, L12, L13, L14, L15, L16, L30, L48, L160, K1, K2, K3, K4, K5, K7, K8, K9, K15, K17, K20, K27, K37, K48, K99, K255, inR, isPlace_r, isPlace_c, isSheet_r, lt0_i, hx, hy, show ¬ (0 ≤ x.toInt ∧ 0 ≤ y.toInt ∧ x.toInt + y.toInt ≤ sz) by omega, decide_false, b01]
    · obtain ⟨a, a1, a2, rfl⟩ := toI (x := x) (by omega)
      obtain ⟨b, b1, b2, rfl⟩ := toI (x := y) (by omega)
      by_cases c1 : sz < a
      · simp (disch := omega) only [leT, leF, ltT, ltF, eqT, eqF, inT, n_cl, nI_add, pk_mul, n_div, pk_sub, md8, md2, or_true, true_or, or_false, false_or, Bool.true_eq_false, Bool.false_eq_true, L0, L1, L2, L3, L4, L5, L6, L7, L8, L9, L10, L20, L31, L40, L64, L99, L100, L255, L256, L999, L1000, L99999, ↓reduceIte, L11, L12, L13, L14, L15, L16, L30, L48, L160, K1, K2, K3, K4, K5, K7, K8, K9, K15, K17, K20, K27, K37, K48, K99, K255, inR, isPlace_r, isPlace_c, isSheet_r, h, show ¬ (0 ≤ (nI a).toInt ∧ 0 ≤ (nI b).toInt ∧ (nI a).toInt + (nI b).toInt ≤ sz) by omega, decide_false, b01]
      · by_cases c2 : sz - a < b
        · simp (disch := omega) only [leT, leF, ltT, ltF, eqT, eqF, inT, n_cl, nI_add, pk_mul, n_div, pk_sub, md8, md2, or_true, true_or, or_false, false_or, Bool.true_eq_false, Bool.false_eq_true, L0, L1, L2, L3, L4, L5, L6, L7, L8, L9, L10, L20, L31, L40, L64, L99, L100, L255, L256, L999, L1000, L99999, ↓reduceIte, L11, L12, L13, L14, L15, L16, L30, L48, L160, K1, K2, K3, K4, K5, K7, K8, K9, K15, K17, K20, K27, K37, K48, K99, K255, inR, isPlace_r, isPlace_c, isSheet_r, h, show ¬ (0 ≤ (nI a).toInt ∧ 0 ≤ (nI b).toInt ∧ (nI a).toInt + (nI b).toInt ≤ sz) by omega, decide_false, b01]
        · simp (disch := omega) only [leT, leF, ltT, ltF, eqT, eqF, inT, n_cl, nI_add, pk_mul, n_div, pk_sub, md8, md2, or_true, true_or, or_false, false_or, Bool.true_eq_false, Bool.false_eq_true, L0, L1, L2, L3, L4, L5, L6, L7, L8, L9, L10, L20, L31, L40, L64, L99, L100, L255, L256, L999, L1000, L99999, ↓reduceIte, L11, L12, L13, L14, L15, L16, L30, L48, L160, K1, K2, K3, K4, K5, K7, K8, K9, K15, K17, K20, K27, K37, K48, K99, K255, inR, isPlace_r, isPlace_c, isSheet_r, h, show (0 ≤ (nI a).toInt ∧ 0 ≤ (nI b).toInt ∧ (nI a).toInt + (nI b).toInt ≤ sz) by omega, decide_true, b01]
          rfl
theorem miss_c {s : Nat} {m : Mem} (h : m.1 s 0 = -nI 1) : X6_isMissing s m = some (nI 1, m) := by
  unfold X6_isMissing
  simp (disch := omega) only [leT, leF, ltT, ltF, eqT, eqF, inT, n_cl, nI_add, pk_mul, n_div, pk_sub, md8, md2, or_true, true_or, or_false, false_or, Bool.true_eq_false, Bool.false_eq_true, L0, L1, L2, L3, L4, L5, L6, L7, L8, L9, L10, L20, L31, L40, L64, L99, L100, L255, L256, L999, L1000, L99999, ↓reduceIte, L11, L12, L13, L14, L15, L16, L30, L48, L160, K1, K2, K3, K4, K5, K7, K8, K9, K15, K17, K20, K27, K37, K48, K99, K255, inR, isPlace_r, isPlace_c, isSheet_r, h]
theorem here_c {s so : Nat} {m : Mem} (ho : so < 3) (h : m.1 s 0 = nI so) : X6_isMissing s m = some (nI 0, m) := by
  unfold X6_isMissing
  simp (disch := omega) only [leT, leF, ltT, ltF, eqT, eqF, inT, n_cl, nI_add, pk_mul, n_div, pk_sub, md8, md2, or_true, true_or, or_false, false_or, Bool.true_eq_false, Bool.false_eq_true, L0, L1, L2, L3, L4, L5, L6, L7, L8, L9, L10, L20, L31, L40, L64, L99, L100, L255, L256, L999, L1000, L99999, ↓reduceIte, L11, L12, L13, L14, L15, L16, L30, L48, L160, K1, K2, K3, K4, K5, K7, K8, K9, K15, K17, K20, K27, K37, K48, K99, K255, inR, isPlace_r, isPlace_c, isSheet_r, h, (so_n so ho).2.1]
def nrw (so : Nat) (v : Int32) : Int32 := if so = 0 then v.toInt8.toInt32 else if so = 1 then v.toInt16.toInt32 else v
theorem put_c {s so k : Nat} {v : Int32} {m : Mem} (ho : so < 3) (hk : k < 40) (h : m.1 s 0 = nI so) : X6_put s (nI k) v m = some (pI m (s + 1) k (nrw so v)) := by
  unfold X6_put nrw
  rcases (show so = 0 ∨ so = 1 ∨ so = 2 by omega) with rfl | rfl | rfl
  all_goals simp (disch := omega) only [leT, leF, ltT, ltF, eqT, eqF, inT, n_cl, nI_add, pk_mul, n_div, pk_sub, md8, md2, or_true, true_or, or_false, false_or, Bool.true_eq_false, Bool.false_eq_true, L0, L1, L2, L3, L4, L5, L6, L7, L8, L9, L10, L20, L31, L40, L64, L99, L100, L255, L256, L999, L1000, L99999, ↓reduceIte, L11, L12, L13, L14, L15, L16, L30, L48, L160, K1, K2, K3, K4, K5, K7, K8, K9, K15, K17, K20, K27, K37, K48, K99, K255, inR, isPlace_r, isPlace_c, isSheet_r, h, Bool.and_true, Bool.true_and, Bool.false_and, Bool.and_false, Bool.or_true, Bool.true_or, Bool.or_false, Bool.false_or, Bool.not_true, Bool.not_false, show ¬ (1 = 0) by decide, show ¬ (2 = 0) by decide, show ¬ (3 = 0) by decide, show ¬ (4 = 0) by decide, show ¬ (5 = 0) by decide, show ¬ (2 = 1) by decide, show ¬ (3 = 1) by decide, show ¬ (4 = 1) by decide, show ¬ (5 = 1) by decide, show ¬ (3 = 2) by decide, show ¬ (4 = 2) by decide, show ¬ (5 = 2) by decide, show ¬ (4 = 3) by decide, show ¬ (5 = 3) by decide, show ¬ (5 = 4) by decide]
theorem inS {x : Int32} {sz : Nat} (hz : sz ≤ 40) (m : Mem) : X10_in x.toInt64 (0 : Int64) ((nI sz - nI 1).toInt64) m = some (if inn x sz then 1 else 0, m) := by
  refine in0 x sz (by omega) _ ?_ m
  rw [Int32.toInt_toInt64, pk_sub_toInt (by omega) (by omega)]
  omega
theorem o_cell : ob_cell Iv := by
  rintro c nt z m a1 a2 a3 hc ⟨cd, r, rk, G, H, tp, n, ve, hv, hE, hW⟩
  have bad : Iv (c + 1) nt z m := Iv_0 hv hE hW
  have w8 := hW.2.2.2.2.2.2.2
  unfold X9_cell X10_cell
  rcases dich a1 4 (by decide) with ⟨s, hs, rfl⟩ | d
  · have so1 := fun m' => shOf_c hs m'
    rcases w8 s hs with ⟨u1, u2⟩ | ⟨so, sz, g1, g2, g3, g4, g5, g6, g7, g8⟩
    · simp (disch := omega) only [leT, leF, ltT, ltF, eqT, eqF, inT, n_cl, nI_add, pk_mul, n_div, pk_sub, md8, md2, or_true, true_or, or_false, false_or, Bool.true_eq_false, Bool.false_eq_true, L0, L1, L2, L3, L4, L5, L6, L7, L8, L9, L10, L20, L31, L40, L64, L99, L100, L255, L256, L999, L1000, L99999, ↓reduceIte, L11, L12, L13, L14, L15, L16, L30, L48, L160, K1, K2, K3, K4, K5, K7, K8, K9, K15, K17, K20, K27, K37, K48, K99, K255, inR, isPlace_r, isPlace_c, isSheet_r, so1, bq, oq, bi, miss_c u1]
      exact ⟨_, _, _, rfl, by simp (disch := omega) only [leT, leF, ltT, ltF, eqT, eqF, inT, n_cl, nI_add, pk_mul, n_div, pk_sub, md8, md2, or_true, true_or, or_false, false_or, Bool.true_eq_false, Bool.false_eq_true, L0, L1, L2, L3, L4, L5, L6, L7, L8, L9, L10, L20, L31, L40, L64, L99, L100, L255, L256, L999, L1000, L99999, ↓reduceIte, L11, L12, L13, L14, L15, L16, L30, L48, L160, K1, K2, K3, K4, K5, K7, K8, K9, K15, K17, K20, K27, K37, K48, K99, K255, inR, isPlace_r, isPlace_c, isSheet_r, bi, u2], bad⟩
    · have hh := fun x => has_c (x := x) (y := nI 1) g4 g2
      have ii := fun x => inS (x := x) g2 m
      by_cases q : inn a2 sz
      · obtain ⟨k, hk, rfl⟩ := inn_ex q (by omega)
        have dd : decide (0 ≤ (nI k).toInt ∧ 0 ≤ (nI 1).toInt ∧ (nI k).toInt + (nI 1).toInt ≤ sz) = true := by
          have e1 : (nI k).toInt = k := nI_toInt (by omega)
          have e2 : (nI 1).toInt = 1 := rfl
          rw [e1, e2]; simp; omega
        have hm1 := hh (nI k)
        rw [dd] at hm1
        have pc1 := put_c (v := a3) (m := m) (show so < 3 by omega) (show k < 40 by omega) g3
        have hi : X10_in (nI k).toInt64 (0 : Int64) ((nI sz - nI 1).toInt64) (pI m (55 + 2 * s + 1) k (nrw so a3)) = some (nI 1, pI m (55 + 2 * s + 1) k (nrw so a3)) := by
          rw [inS g2, if_pos q]; rfl
        simp (disch := omega) only [leT, leF, ltT, ltF, eqT, eqF, inT, n_cl, nI_add, pk_mul, n_div, pk_sub, md8, md2, or_true, true_or, or_false, false_or, Bool.true_eq_false, Bool.false_eq_true, L0, L1, L2, L3, L4, L5, L6, L7, L8, L9, L10, L20, L31, L40, L64, L99, L100, L255, L256, L999, L1000, L99999, ↓reduceIte, L11, L12, L13, L14, L15, L16, L30, L48, L160, K1, K2, K3, K4, K5, K7, K8, K9, K15, K17, K20, K27, K37, K48, K99, K255, inR, isPlace_r, isPlace_c, isSheet_r, so1, bq, oq, bi, bv, here_c (show so < 3 by omega) g3, hm1, b01, pc1]
        refine ⟨_, _, pI (pI m (55 + 2 * s + 1) k (nrw so a3)) 78 (40 * s + k) (nrw so a3), rfl, ?_, cd, r, rk, G, H, tp, n, ve, by omega, CE_g hE (fun x j h => by rw [rIn (by omega), rIn (by omega)]) (fun _ _ _ _ => rfl), IW_sh hW (fun x j h1 h2 => by rw [rIn (by omega), rIn (by omega)]) (fun i hi => ?_)⟩
        · by_cases hz1 : sz = 0
          · omega
          · simp only [pk_sub (show 1 ≤ sz by omega)] at hi
            unfold nrw at hi ⊢
            rcases (show so = 0 ∨ so = 1 ∨ so = 2 by omega) with rfl | rfl | rfl
            all_goals simp (disch := omega) only [Bool.and_true, Bool.true_and, Bool.false_and, Bool.and_false, Bool.or_true, Bool.true_or, Bool.or_false, Bool.false_or, Bool.not_true, Bool.not_false, show ¬ (1 = 0) by decide, show ¬ (2 = 0) by decide, show ¬ (3 = 0) by decide, show ¬ (4 = 0) by decide, show ¬ (5 = 0) by decide, show ¬ (2 = 1) by decide, show ¬ (3 = 1) by decide, show ¬ (4 = 1) by decide, show ¬ (5 = 1) by decide, show ¬ (3 = 2) by decide, show ¬ (4 = 2) by decide, show ¬ (5 = 2) by decide, show ¬ (4 = 3) by decide, show ¬ (5 = 3) by decide, show ¬ (5 = 4) by decide, ↓reduceIte] at hi
            all_goals simp (disch := omega) only [leT, leF, ltT, ltF, eqT, eqF, inT, n_cl, nI_add, pk_mul, n_div, pk_sub, md8, md2, or_true, true_or, or_false, false_or, Bool.true_eq_false, Bool.false_eq_true, L0, L1, L2, L3, L4, L5, L6, L7, L8, L9, L10, L20, L31, L40, L64, L99, L100, L255, L256, L999, L1000, L99999, ↓reduceIte, L11, L12, L13, L14, L15, L16, L30, L48, L160, K1, K2, K3, K4, K5, K7, K8, K9, K15, K17, K20, K27, K37, K48, K99, K255, inR, isPlace_r, isPlace_c, isSheet_r, bi, rIn, g5, g6, g7, hi, Bool.and_true, Bool.true_and, Bool.false_and, Bool.and_false, Bool.or_true, Bool.true_or, Bool.or_false, Bool.false_or, Bool.not_true, Bool.not_false, show ¬ (1 = 0) by decide, show ¬ (2 = 0) by decide, show ¬ (3 = 0) by decide, show ¬ (4 = 0) by decide, show ¬ (5 = 0) by decide, show ¬ (2 = 1) by decide, show ¬ (3 = 1) by decide, show ¬ (4 = 1) by decide, show ¬ (5 = 1) by decide, show ¬ (3 = 2) by decide, show ¬ (4 = 2) by decide, show ¬ (5 = 2) by decide, show ¬ (4 = 3) by decide, show ¬ (5 = 3) by decide, show ¬ (5 = 4) by decide]
        · by_cases qi : i = s
          · subst qi
            refine .inr ⟨so, sz, g1, g2, ?_, ?_, ?_, ?_, ?_, fun k' hk' => ?_⟩
            · rw [rIn (by omega), rIn (by omega)]; exact g3
            · rw [rIn (by omega), rIn (by omega)]; exact g4
            · rw [rIn (by omega), rIn (by omega)]; exact g5
            · rw [rIn (by omega), rIn (by omega)]; exact g6
            · rw [rIn (by omega), rIn (by omega)]; exact g7
            · by_cases y : k' = k
              · subst y
                rw [rIn (by omega), show 56 + 2 * i = 55 + 2 * i + 1 by omega, rIs, rIs]
              · rw [rIn (by omega), rIn (by omega), rIn (by omega), rIn (by omega)]; exact g8 k' hk'
          · exact SHE_s (fun x j h => by rw [rIn (by omega), rIn (by omega)]) (w8 i hi)
      · have dd : decide (0 ≤ a2.toInt ∧ 0 ≤ (nI 1).toInt ∧ a2.toInt + (nI 1).toInt ≤ sz) = false := by
          have e2 : (nI 1).toInt = 1 := rfl
          rw [inn_i] at q
          rw [e2]; simp; omega
        have hm1 := hh a2
        rw [dd] at hm1
        have ii' := ii a2
        rw [if_neg q] at ii'
        simp (disch := omega) only [leT, leF, ltT, ltF, eqT, eqF, inT, n_cl, nI_add, pk_mul, n_div, pk_sub, md8, md2, or_true, true_or, or_false, false_or, Bool.true_eq_false, Bool.false_eq_true, L0, L1, L2, L3, L4, L5, L6, L7, L8, L9, L10, L20, L31, L40, L64, L99, L100, L255, L256, L999, L1000, L99999, ↓reduceIte, L11, L12, L13, L14, L15, L16, L30, L48, L160, K1, K2, K3, K4, K5, K7, K8, K9, K15, K17, K20, K27, K37, K48, K99, K255, inR, isPlace_r, isPlace_c, isSheet_r, so1, bq, oq, bi, here_c (show so < 3 by omega) g3, hm1, b01]
        refine ⟨_, _, m, rfl, ?_, bad⟩
        simp only [isSheet_r, bi, inT (show s < 4 by omega) (show s < 2147483648 by omega), ↓reduceIte, n_cl (show s < 2147483648 by omega), g5, g7, ii']
        simp (disch := omega) only [leT, leF, ltT, ltF, eqT, eqF, inT, n_cl, nI_add, pk_mul, n_div, pk_sub, md8, md2, or_true, true_or, or_false, false_or, Bool.true_eq_false, Bool.false_eq_true, L0, L1, L2, L3, L4, L5, L6, L7, L8, L9, L10, L20, L31, L40, L64, L99, L100, L255, L256, L999, L1000, L99999, ↓reduceIte, L11, L12, L13, L14, L15, L16, L30, L48, L160, K1, K2, K3, K4, K5, K7, K8, K9, K15, K17, K20, K27, K37, K48, K99, K255, inR, isPlace_r, isPlace_c, isSheet_r, ii']
  · simp (disch := omega) only [leT, leF, ltT, ltF, eqT, eqF, inT, n_cl, nI_add, pk_mul, n_div, pk_sub, md8, md2, or_true, true_or, or_false, false_or, Bool.true_eq_false, Bool.false_eq_true, L0, L1, L2, L3, L4, L5, L6, L7, L8, L9, L10, L20, L31, L40, L64, L99, L100, L255, L256, L999, L1000, L99999, ↓reduceIte, L11, L12, L13, L14, L15, L16, L30, L48, L160, K1, K2, K3, K4, K5, K7, K8, K9, K15, K17, K20, K27, K37, K48, K99, K255, inR, isPlace_r, isPlace_c, isSheet_r, shOf_n d, bq, oq, bi, d.1]
    exact ⟨_, _, _, rfl, rfl, bad⟩
