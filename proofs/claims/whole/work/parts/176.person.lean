/-! calls: person, road, image, back -/
def addG (G : Fo) (k nu kw : Nat) : Fo := gU (gU (gU (gU (gU (gU (gU G 1 (G 0 0) k) 2 (G 0 0) nu) 3 (G 0 0) 0) 4 (G 0 0) kw) 5 (G 0 0) 0) 6 (G 0 0) 0) 0 0 (G 0 0 + 1)
abbrev okP (x y w : Int32) : Prop := inn x 6 ∧ inn y 10 ∧ inn w 256
def perA (G : Fo) (x y w : Int32) : Int32 × Fo := if okP x y w then (if G 0 0 = 6 then (-nI 4, G) else (nI (G 0 0), addG G x.toNatClampNeg y.toNatClampNeg w.toNatClampNeg)) else (-nI 2, G)
section
variable {nt R : Nat} {m : Mem} {G : Fo}
theorem addG_o {k nu kw : Nat} (h : G 0 0 < 6) (hk : k ≤ 5) (hn : nu ≤ 9) (hw : kw ≤ 255) (hG : GO nt R G) : GO nt R (addG G k nu kw) := by
  unfold addG
  exact GO_u (show G 0 0 + 1 ≤ 6 by omega) (GO_u (show 0 ≤ 99999 by decide) (GO_u (show 0 ≤ 255 by decide) (GO_u hw (GO_u (show 0 ≤ 7 by decide) (GO_u hn (GO_u hk hG))))))
theorem perA_b {x y w : Int32} (h : ¬ okP x y w) : perA G x y w = (-nI 2, G) := by unfold perA; rw [if_neg h]
theorem perA_6 {x y w : Int32} (h : okP x y w) (h6 : G 0 0 = 6) : perA G x y w = (-nI 4, G) := by unfold perA; rw [if_pos h, if_pos h6]
theorem perA_k {k nu kw : Nat} (hk : k < 6) (hn : nu < 10) (hw : kw < 256) (h6 : ¬ G 0 0 = 6) : perA G (nI k) (nI nu) (nI kw) = (nI (G 0 0), addG G k nu kw) := by
  unfold perA
  rw [if_pos ⟨(n_inn (by omega)).mpr hk, (n_inn (by omega)).mpr hn, (n_inn (by omega)).mpr hw⟩, if_neg h6, n_cl (by omega), n_cl (by omega), n_cl (by omega)]
theorem perA_i {x y w : Int32} (hG : GO nt R G) : GO nt R (perA G x y w).2 ∧ G 0 0 ≤ (perA G x y w).2 0 0 ∧ ∀ p, p < G 0 0 → (perA G x y w).2 1 p = G 1 p := by
  unfold perA
  by_cases h : okP x y w
  · rw [if_pos h]
    by_cases h6 : G 0 0 = 6
    · rw [if_pos h6]; exact ⟨hG, Nat.le_refl _, fun _ _ => rfl⟩
    · rw [if_neg h6]
      have g0 := hG.1
      have b1 := inn_lt h.1
      have b2 := inn_lt h.2.1
      have b3 := inn_lt h.2.2
      refine ⟨addG_o (by omega) (by omega) (by omega) (by omega) hG, ?_, fun p hp => ?_⟩
      · show G 0 0 ≤ addG G x.toNatClampNeg y.toNatClampNeg w.toNatClampNeg 0 0
        unfold addG
        rw [gU_s]; omega
      · show addG G x.toNatClampNeg y.toNatClampNeg w.toNatClampNeg 1 p = _
        unfold addG
        rw [gU_n (by omega), gU_n (by omega), gU_n (by omega), gU_n (by omega), gU_n (by omega), gU_n (by omega), gU_n (by omega)]
  · rw [if_neg h]; exact ⟨hG, Nat.le_refl _, fun _ _ => rfl⟩
theorem pers_c (x y w : Int32) (hR : RF 5 m G) (hG : GO nt R G) : ∃ m', X9_person x y w m = some ((perA G x y w).1, m') ∧ RF 5 m' (perA G x y w).2 ∧ (∀ a j, ¬ (5 ≤ a ∧ a ≤ 11) → m'.1 a j = m.1 a j) ∧ m'.2 = m.2 := by
  have s0 := hR.1 0 (by decide)
  have g0 := hG.1
  unfold X9_person X1_isKind
  rcases dich x 6 (by decide) with ⟨k, hk, rfl⟩ | ⟨d0, d1 | ⟨d1, d2, d3, d4⟩⟩
  · rcases dich y 10 (by decide) with ⟨nu, hn, rfl⟩ | ⟨d0, d1 | ⟨d1, d2, d3, d4⟩⟩
    · rcases dich w 256 (by decide) with ⟨kw, hw, rfl⟩ | ⟨d0, d1 | ⟨d1, d2, d3, d4⟩⟩
      · have hok : okP (nI k) (nI nu) (nI kw) := ⟨(n_inn (by omega)).mpr hk, (n_inn (by omega)).mpr hn, (n_inn (by omega)).mpr hw⟩
        unfold X0_add
        by_cases h6 : G 0 0 = 6
        · rw [perA_6 hok h6]
          simp (disch := omega) only [leT, leF, ltT, ltF, eqT, eqF, inT, n_cl, nI_add, pk_mul, n_div, pk_sub, md8, md2, or_true, true_or, or_false, false_or, Bool.true_eq_false, Bool.false_eq_true, L0, L1, L2, L3, L4, L5, L6, L7, L8, L9, L10, L20, L31, L40, L64, L99, L100, L255, L256, L999, L1000, L99999, ↓reduceIte, bi, s0, h6]
          exact ⟨m, rfl, hR, fun _ _ _ => rfl, rfl⟩
        · rw [perA_k hk hn hw h6]
          simp (disch := omega) only [leT, leF, ltT, ltF, eqT, eqF, inT, n_cl, nI_add, pk_mul, n_div, pk_sub, md8, md2, or_true, true_or, or_false, false_or, Bool.true_eq_false, Bool.false_eq_true, L0, L1, L2, L3, L4, L5, L6, L7, L8, L9, L10, L20, L31, L40, L64, L99, L100, L255, L256, L999, L1000, L99999, ↓reduceIte, bi, rIn, s0]
          refine ⟨_, rfl, ?_, fun a j h => ?_, rfl⟩
          · have := RF_u0 (p := 0) (v := G 0 0 + 1) (RF_u (j := 6) (p := G 0 0) (v := 0) (by decide) (RF_u (j := 5) (p := G 0 0) (v := 0) (by decide) (RF_u (j := 4) (p := G 0 0) (v := kw) (by decide) (RF_u (j := 3) (p := G 0 0) (v := 0) (by decide) (RF_u (j := 2) (p := G 0 0) (v := nu) (by decide) (RF_u (j := 1) (p := G 0 0) (v := k) (by decide) hR))))))
            exact this
          · rw [rIn (by omega), rIn (by omega), rIn (by omega), rIn (by omega), rIn (by omega), rIn (by omega), rIn (by omega)]
      · rw [perA_b (fun q => by rw [← d0]; exact q.2.2)]
        simp (disch := omega) only [leT, leF, ltT, ltF, eqT, eqF, inT, n_cl, nI_add, pk_mul, n_div, pk_sub, md8, md2, or_true, true_or, or_false, false_or, Bool.true_eq_false, Bool.false_eq_true, L0, L1, L2, L3, L4, L5, L6, L7, L8, L9, L10, L20, L31, L40, L64, L99, L100, L255, L256, L999, L1000, L99999, ↓reduceIte, bi, d1]
        exact ⟨m, rfl, hR, fun _ _ _ => rfl, rfl⟩
      · rw [perA_b (fun q => by rw [← d0]; exact q.2.2)]
        simp (disch := omega) only [leT, leF, ltT, ltF, eqT, eqF, inT, n_cl, nI_add, pk_mul, n_div, pk_sub, md8, md2, or_true, true_or, or_false, false_or, Bool.true_eq_false, Bool.false_eq_true, L0, L1, L2, L3, L4, L5, L6, L7, L8, L9, L10, L20, L31, L40, L64, L99, L100, L255, L256, L999, L1000, L99999, ↓reduceIte, bi, d1, d4 255 (by decide)]
        exact ⟨m, rfl, hR, fun _ _ _ => rfl, rfl⟩
    · rw [perA_b (fun q => by rw [← d0]; exact q.2.1)]
      simp (disch := omega) only [leT, leF, ltT, ltF, eqT, eqF, inT, n_cl, nI_add, pk_mul, n_div, pk_sub, md8, md2, or_true, true_or, or_false, false_or, Bool.true_eq_false, Bool.false_eq_true, L0, L1, L2, L3, L4, L5, L6, L7, L8, L9, L10, L20, L31, L40, L64, L99, L100, L255, L256, L999, L1000, L99999, ↓reduceIte, bi, d1]
      exact ⟨m, rfl, hR, fun _ _ _ => rfl, rfl⟩
    · rw [perA_b (fun q => by rw [← d0]; exact q.2.1)]
      simp (disch := omega) only [leT, leF, ltT, ltF, eqT, eqF, inT, n_cl, nI_add, pk_mul, n_div, pk_sub, md8, md2, or_true, true_or, or_false, false_or, Bool.true_eq_false, Bool.false_eq_true, L0, L1, L2, L3, L4, L5, L6, L7, L8, L9, L10, L20, L31, L40, L64, L99, L100, L255, L256, L999, L1000, L99999, ↓reduceIte, bi, d1, d4 9 (by decide)]
      exact ⟨m, rfl, hR, fun _ _ _ => rfl, rfl⟩
  · rw [perA_b (fun q => by rw [← d0]; exact q.1)]
    simp (disch := omega) only [leT, leF, ltT, ltF, eqT, eqF, inT, n_cl, nI_add, pk_mul, n_div, pk_sub, md8, md2, or_true, true_or, or_false, false_or, Bool.true_eq_false, Bool.false_eq_true, L0, L1, L2, L3, L4, L5, L6, L7, L8, L9, L10, L20, L31, L40, L64, L99, L100, L255, L256, L999, L1000, L99999, ↓reduceIte, bi, d1]
    exact ⟨m, rfl, hR, fun _ _ _ => rfl, rfl⟩
  · have d5 : (nI 6 ≤ x) = True := eq_true (by
      have h1 : ¬ x ≤ nI 5 := by rw [d4 5 (by decide)]; exact fun q => q
      have h2 := Int32.le_iff_toInt_le (x := x) (y := nI 5)
      rw [show (nI 5).toInt = 5 from rfl] at h2
      have h3 : ¬ x.toInt ≤ 5 := fun q => h1 (h2.mpr q)
      apply Int32.le_iff_toInt_le.mpr
      rw [show (nI 6).toInt = 6 from rfl]
      omega)
    rw [perA_b (fun q => by rw [← d0]; exact q.1)]
    simp (disch := omega) only [leT, leF, ltT, ltF, eqT, eqF, inT, n_cl, nI_add, pk_mul, n_div, pk_sub, md8, md2, or_true, true_or, or_false, false_or, Bool.true_eq_false, Bool.false_eq_true, L0, L1, L2, L3, L4, L5, L6, L7, L8, L9, L10, L20, L31, L40, L64, L99, L100, L255, L256, L999, L1000, L99999, ↓reduceIte, bi, d1, d5]
    exact ⟨m, rfl, hR, fun _ _ _ => rfl, rfl⟩
theorem RR_sz {v : Nat} (hk : m.1 68 (G 0 0) = nI (G 1 (G 0 0))) (g : RR m G) : RR (pI m 63 11 (nI (G 0 0 + 1))) (gU G 0 0 (G 0 0 + 1)) := by
  obtain ⟨g1, g2, g3, g4, g5⟩ := g
  refine ⟨by rw [rIs, gU_s], by rw [rIn (by omega), gU_n (by omega)]; exact g2, by rw [rIn (by omega), gU_n (by omega)]; exact g3, fun p' hp => ?_, fun p' hp => ?_⟩
  · rw [rIn (by omega), rIn (by omega), rIn (by omega), rIn (by omega), rIn (by omega), gU_n (by omega), gU_n (by omega), gU_n (by omega), gU_n (by omega), gU_n (by omega)]; exact g4 p' hp
  · rw [gU_s] at hp
    rw [rIn (by omega), gU_n (by omega)]
    by_cases q : p' = G 0 0
    · rw [q]; exact hk
    · exact g5 p' (by omega)
theorem pers_r (x y w : Int32) (hR : RR m G) (hG : GO nt R G) : ∃ m', X10_person x y w m = some ((perA G x y w).1, m') ∧ RR m' (perA G x y w).2 ∧ (∀ a j, ¬ (a = 63 ∧ j = 11) → a ≠ 68 → a ≠ 69 → m'.1 a j = m.1 a j) ∧ m'.2 = m.2 := by
  have s0 := hR.1
  have g0 := hG.1
  unfold X10_person
  rcases dich x 6 (by decide) with ⟨k, hk, rfl⟩ | ⟨d0, _⟩
  · rcases dich y 10 (by decide) with ⟨nu, hn, rfl⟩ | ⟨d0, _⟩
    · rcases dich w 256 (by decide) with ⟨kw, hw, rfl⟩ | ⟨d0, _⟩
      · have hok : okP (nI k) (nI nu) (nI kw) := ⟨(n_inn (by omega)).mpr hk, (n_inn (by omega)).mpr hn, (n_inn (by omega)).mpr hw⟩
        by_cases h6 : G 0 0 = 6
        · rw [perA_6 hok h6]
          simp (disch := omega) only [leT, leF, ltT, ltF, eqT, eqF, inT, n_cl, nI_add, pk_mul, n_div, pk_sub, md8, md2, or_true, true_or, or_false, false_or, Bool.true_eq_false, Bool.false_eq_true, L0, L1, L2, L3, L4, L5, L6, L7, L8, L9, L10, L20, L31, L40, L64, L99, L100, L255, L256, L999, L1000, L99999, ↓reduceIte, L11, L12, L13, L14, L15, L16, L30, L48, L160, K1, K2, K3, K4, K5, K7, K8, K9, K15, K17, K20, K27, K37, K48, K99, K255, inR, isPlace_r, isPlace_c, isSheet_r, bi, s0, h6]
          exact ⟨m, rfl, hR, fun _ _ _ _ _ => rfl, rfl⟩
        · have es : nI (G 0 0 + 1) - nI 1 = nI (G 0 0) := by rw [pk_sub (by omega)]; rfl
          rw [perA_k hk hn hw h6]
          simp (disch := omega) only [leT, leF, ltT, ltF, eqT, eqF, inT, n_cl, nI_add, pk_mul, n_div, pk_sub, md8, md2, or_true, true_or, or_false, false_or, Bool.true_eq_false, Bool.false_eq_true, L0, L1, L2, L3, L4, L5, L6, L7, L8, L9, L10, L20, L31, L40, L64, L99, L100, L255, L256, L999, L1000, L99999, ↓reduceIte, L11, L12, L13, L14, L15, L16, L30, L48, L160, K1, K2, K3, K4, K5, K7, K8, K9, K15, K17, K20, K27, K37, K48, K99, K255, inR, isPlace_r, isPlace_c, isSheet_r, bi, rIn, s0, rIs, Nat.add_sub_cancel]
          refine ⟨_, rfl, ?_, fun a j h1 h2 h3 => ?_, rfl⟩
          · have r1 := RR_u1 (p := G 0 0) (v := k) hR
            have r2 := RR_u (j := 2) (p := G 0 0) (v := nu) (by decide) (by decide) r1
            have r3 := RR_u (j := 3) (p := G 0 0) (v := 0) (by decide) (by decide) r2
            have r4 := RR_u (j := 4) (p := G 0 0) (v := kw) (by decide) (by decide) r3
            have r5 := RR_u (j := 5) (p := G 0 0) (v := 0) (by decide) (by decide) r4
            have r6 := RR_u (j := 6) (p := G 0 0) (v := 0) (by decide) (by decide) r5
            have e0 : gU (gU (gU (gU (gU (gU G 1 (G 0 0) k) 2 (G 0 0) nu) 3 (G 0 0) 0) 4 (G 0 0) kw) 5 (G 0 0) 0) 6 (G 0 0) 0 0 0 = G 0 0 := by
              rw [gU_n (by omega), gU_n (by omega), gU_n (by omega), gU_n (by omega), gU_n (by omega), gU_n (by omega)]
            have r7 := RR_sz (v := 0) (by
              rw [e0, rIn (by omega), rIn (by omega), rIn (by omega), rIn (by omega), rIn (by omega), rIs, gU_n (by omega), gU_n (by omega), gU_n (by omega), gU_n (by omega), gU_n (by omega), gU_s]) r6
            rw [e0] at r7
            exact r7
          · rw [rIn (by omega), rIn (by omega), rIn (by omega), rIn (by omega), rIn (by omega), rIn (by omega), rIn (by omega)]
      · rw [perA_b (fun q => by rw [← d0]; exact q.2.2)]
        simp (disch := omega) only [leT, leF, ltT, ltF, eqT, eqF, inT, n_cl, nI_add, pk_mul, n_div, pk_sub, md8, md2, or_true, true_or, or_false, false_or, Bool.true_eq_false, Bool.false_eq_true, L0, L1, L2, L3, L4, L5, L6, L7, L8, L9, L10, L20, L31, L40, L64, L99, L100, L255, L256, L999, L1000, L99999, ↓reduceIte, L11, L12, L13, L14, L15, L16, L30, L48, L160, K1, K2, K3, K4, K5, K7, K8, K9, K15, K17, K20, K27, K37, K48, K99, K255, inR, isPlace_r, isPlace_c, isSheet_r, bi, d0]
        exact ⟨m, rfl, hR, fun _ _ _ _ _ => rfl, rfl⟩
    · rw [perA_b (fun q => by rw [← d0]; exact q.2.1)]
      simp (disch := omega) only [leT, leF, ltT, ltF, eqT, eqF, inT, n_cl, nI_add, pk_mul, n_div, pk_sub, md8, md2, or_true, true_or, or_false, false_or, Bool.true_eq_false, Bool.false_eq_true, L0, L1, L2, L3, L4, L5, L6, L7, L8, L9, L10, L20, L31, L40, L64, L99, L100, L255, L256, L999, L1000, L99999, ↓reduceIte, L11, L12, L13, L14, L15, L16, L30, L48, L160, K1, K2, K3, K4, K5, K7, K8, K9, K15, K17, K20, K27, K37, K48, K99, K255, inR, isPlace_r, isPlace_c, isSheet_r, bi, d0]
      exact ⟨m, rfl, hR, fun _ _ _ _ _ => rfl, rfl⟩
  · rw [perA_b (fun q => by rw [← d0]; exact q.1)]
    simp (disch := omega) only [leT, leF, ltT, ltF, eqT, eqF, inT, n_cl, nI_add, pk_mul, n_div, pk_sub, md8, md2, or_true, true_or, or_false, false_or, Bool.true_eq_false, Bool.false_eq_true, L0, L1, L2, L3, L4, L5, L6, L7, L8, L9, L10, L20, L31, L40, L64, L99, L100, L255, L256, L999, L1000, L99999, ↓reduceIte, L11, L12, L13, L14, L15, L16, L30, L48, L160, K1, K2, K3, K4, K5, K7, K8, K9, K15, K17, K20, K27, K37, K48, K99, K255, inR, isPlace_r, isPlace_c, isSheet_r, bi, d0]
    exact ⟨m, rfl, hR, fun _ _ _ _ _ => rfl, rfl⟩
end
theorem o_person : ob_person Iv := by
  rintro c nt z m a1 a2 a3 hc ⟨cd, r, rk, G, H, tp, n, ve, hv, hE, hW⟩
  have hW0 := hW
  obtain ⟨w1, w2, w3, w4, w5, w6, w7, w8⟩ := hW
  obtain ⟨m1, x1, x2, x3, x4⟩ := pers_c a1 a2 a3 w2 w4
  have R1 : RR m1 G := RR_f (fun x j h => x3 x j (by omega)) w3
  obtain ⟨m2, y1, y2, y3, y4⟩ := pers_r a1 a2 a3 R1 w4
  obtain ⟨i1, i2, i3⟩ := perA_i (x := a1) (y := a2) (w := a3) w4
  have fr : FRf m1 m2 := fun x j q => ⟨y3 x j (by omega) (by omega) (by omega), by rw [y4]⟩
  refine ⟨_, m1, m2, x1, y1, cd, r, rk, (perA G a1 a2 a3).2, H, tp, n, ve, by omega, CE_rf fr (CE_g hE (fun x j h => x3 x j (by omega)) (fun x j _ _ => by rw [x4])), IW_fo hW0 (RF_rf fo5 fr x2) y2 i1 i2 i3 (fun x j h => ?_)⟩
  unfold DuO at h
  rw [y3 x j (by omega) (by omega) (by omega), x3 x j (by omega)]
