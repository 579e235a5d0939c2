/-! calls: road, image, back -/
section
variable {cd : Nat → Cd} {r r' : Nat → Nat} {nt ve R : Nat} {z : Nat → Nat} {m m' : Mem} {G : Fo}
/-- the roads are others now -/
theorem CE_new (hE : CE cd r nt z ve m) (hv : ve < 1000) (hr : RdO r') (ho : Ro m' 2 r') (h3 : m'.1 1 3 = nI 0) (h4 : m'.1 1 4 = nI (ve + 1)) (h : ∀ x j, 38 ≤ x → ¬ (55 ≤ x ∧ x ≤ 78) → m'.1 x j = m.1 x j) (h2 : ∀ x j, 38 ≤ x → x ≤ 49 → m'.2 x j = m.2 x j) : CE cd r' nt z (ve + 1) m' := by
  obtain ⟨e1, e2, e3, e4, e5, e6, e7, e8⟩ := hE
  refine ⟨e1, fun k hk => TxC_f (fun x j a b c => h x j (by omega) (by omega)) (e2 k hk), hr, ho, fun a ha hb => ?_, h4, by omega, fun i hi => .inl ?_⟩
  · rw [h3, bp_0] at hb; exact absurd hb (by decide)
  · rw [h2 _ _ (by omega) (by omega)]
    rcases e8 i hi with v | ⟨ru, pl, nu, kc, ro, v1, v2, v3, v4, v5, v6, v7⟩
    · omega
    · have f1 := fK_le (cd ru)
      have f2 := fO_le (cd ru)
      have b1 : fK (cd ru) * kc < 9 := by
        rcases (show fK (cd ru) = 0 ∨ fK (cd ru) = 1 by omega) with h | h <;> rw [h] <;> omega
      have b2 : fO (cd ru) * ro < 1020 := by
        rcases (show fO (cd ru) = 0 ∨ fO (cd ru) = 1 by omega) with h | h <;> rw [h] <;> omega
      have kl2 := key_l (pl := pl) (nu := nu) e7 (show ru < 6 by omega) v2 v3 b1 b2
      rw [v6, pk_lT (by omega)]
      omega
end
theorem o_road : ob_road Iv := by
  rintro c nt z m a1 a2 a3 hc ⟨cd, r, rk, G, H, tp, n, ve, hv, hE, hW⟩
  have bad : Iv (c + 1) nt z m := Iv_0 hv hE hW
  obtain ⟨w1, w2, w3, w4, w5, w6, w7, w8⟩ := hW
  unfold X9_road X10_road
  rcases dich a1 8 (by decide) with ⟨a, ha, rfl⟩ | ⟨d0, _⟩
  · rcases dich a2 8 (by decide) with ⟨b, hb, rfl⟩ | ⟨d0, _⟩
    · by_cases hab : a = b
      · simp (disch := omega) only [leT, leF, ltT, ltF, eqT, eqF, inT, n_cl, nI_add, pk_mul, n_div, pk_sub, md8, md2, or_true, true_or, or_false, false_or, Bool.true_eq_false, Bool.false_eq_true, L0, L1, L2, L3, L4, L5, L6, L7, L8, L9, L10, L20, L31, L40, L64, L99, L100, L255, L256, L999, L1000, L99999, ↓reduceIte, L11, L12, L13, L14, L15, L16, L30, L48, L160, K1, K2, K3, K4, K5, K7, K8, K9, K15, K17, K20, K27, K37, K48, K99, K255, inR, isPlace_r, isPlace_c, isSheet_r, bi]
        exact ⟨_, _, _, rfl, by simp (disch := omega) only [leT, leF, ltT, ltF, eqT, eqF, inT, n_cl, nI_add, pk_mul, n_div, pk_sub, md8, md2, or_true, true_or, or_false, false_or, Bool.true_eq_false, Bool.false_eq_true, L0, L1, L2, L3, L4, L5, L6, L7, L8, L9, L10, L20, L31, L40, L64, L99, L100, L255, L256, L999, L1000, L99999, ↓reduceIte, L11, L12, L13, L14, L15, L16, L30, L48, L160, K1, K2, K3, K4, K5, K7, K8, K9, K15, K17, K20, K27, K37, K48, K99, K255, inR, isPlace_r, isPlace_c, isSheet_r, bi], bad⟩
      · rcases dich a3 100 (by decide) with ⟨v, hv3, rfl⟩ | ⟨d0, d1 | ⟨d1, d2, d3, d4⟩⟩
        · have e4 := hE.2.2.2.1 (8 * a + b) (by omega)
          have e6 := hE.2.2.2.2.2.1
          have f4 := w1.2.2.2.1 (8 * a + b) (by omega)
          have x1 : a * 8 + b = 8 * a + b := by omega
          have x2 : b * 8 + a = 8 * b + a := by omega
          obtain ⟨hro1, hro2⟩ := w1.2.2.1
          have hro' : RdO (fun k => if k = 8 * a + b ∨ k = 8 * b + a then v else r k) := by
            refine ⟨fun k hk => ?_, fun w hw => ?_⟩
            · show (if k = 8 * a + b ∨ k = 8 * b + a then v else r k) ≤ 99
              split
              · omega
              · exact hro1 k hk
            · show (if 9 * w = 8 * a + b ∨ 9 * w = 8 * b + a then v else r (9 * w)) = 0
              rw [if_neg (by omega)]; exact hro2 w hw
          have hRo : ∀ (q : Nat) (M : Mem), Ro M q r → Ro (pI (pI M q (8 * a + b) (nI v)) q (8 * b + a) (nI v)) q (fun k => if k = 8 * a + b ∨ k = 8 * b + a then v else r k) := by
            intro q M hM k hk
            show _ = nI (if k = 8 * a + b ∨ k = 8 * b + a then v else r k)
            by_cases c1 : k = 8 * b + a
            · rw [c1, rIs, if_pos (.inr rfl)]
            · rw [rIn (by omega)]
              by_cases c2 : k = 8 * a + b
              · rw [c2, rIs, if_pos (.inl rfl)]
              · rw [rIn (by omega), if_neg (by omega)]; exact hM k hk
          have F : ∀ x j, x ≠ 1 → x ≠ 2 → x ≠ 67 → (pI (pI (pI (pI (pI (pI m 2 (8 * a + b) (nI v)) 2 (8 * b + a) (nI v)) 1 3 (nI 0)) 1 4 (nI (ve + 1))) 67 (8 * a + b) (nI v)) 67 (8 * b + a) (nI v)).1 x j = m.1 x j := fun x j h1 h2 h3 => by
            rw [rIn (by omega), rIn (by omega), rIn (by omega), rIn (by omega), rIn (by omega), rIn (by omega)]
          obtain ⟨m2, y1, y2, y3⟩ := spreads_r (r := fun k => if k = 8 * a + b ∨ k = 8 * b + a then v else r k) (m := pI (pI (pI (pI (pI (pI m 2 (8 * a + b) (nI v)) 2 (8 * b + a) (nI v)) 1 3 (nI 0)) 1 4 (nI (ve + 1))) 67 (8 * a + b) (nI v)) 67 (8 * b + a) (nI v)) hro'.1 (hRo 67 _ (fun k hk => by
            rw [rIn (by omega), rIn (by omega), rIn (by omega), rIn (by omega)]; exact w1.2.2.2.1 k hk))
          have F2 : ∀ x j, x ≠ 1 → x ≠ 2 → x ≠ 67 → x ≠ 70 → m2.1 x j = m.1 x j := fun x j h1 h2 h3 h4 => by
            rw [y3.2 x j h4, F x j h1 h2 h3]
          have F3 : m2.2 = m.2 := by rw [y3.1]; rfl
          unfold X4_lay
          simp (disch := omega) only [leT, leF, ltT, ltF, eqT, eqF, inT, n_cl, nI_add, pk_mul, n_div, pk_sub, md8, md2, or_true, true_or, or_false, false_or, Bool.true_eq_false, Bool.false_eq_true, L0, L1, L2, L3, L4, L5, L6, L7, L8, L9, L10, L20, L31, L40, L64, L99, L100, L255, L256, L999, L1000, L99999, ↓reduceIte, L11, L12, L13, L14, L15, L16, L30, L48, L160, K1, K2, K3, K4, K5, K7, K8, K9, K15, K17, K20, K27, K37, K48, K99, K255, inR, isPlace_r, isPlace_c, isSheet_r, bi, x1, x2, e4, rIn, e6]
          refine ⟨nI (r (8 * a + b)), _, m2, rfl, by simp (disch := omega) only [leT, leF, ltT, ltF, eqT, eqF, inT, n_cl, nI_add, pk_mul, n_div, pk_sub, md8, md2, or_true, true_or, or_false, false_or, Bool.true_eq_false, Bool.false_eq_true, L0, L1, L2, L3, L4, L5, L6, L7, L8, L9, L10, L20, L31, L40, L64, L99, L100, L255, L256, L999, L1000, L99999, ↓reduceIte, L11, L12, L13, L14, L15, L16, L30, L48, L160, K1, K2, K3, K4, K5, K7, K8, K9, K15, K17, K20, K27, K37, K48, K99, K255, inR, isPlace_r, isPlace_c, isSheet_r, bi, bv, rIn, f4, y1], cd, fun k => if k = 8 * a + b ∨ k = 8 * b + a then v else r k, rk, G, H, tp, n, ve + 1, by omega, CE_new hE (by omega) hro' ?_ ?_ ?_ (fun x j h1 h2 => F2 x j (by omega) (by omega) (by omega) (by omega)) (fun x j _ _ => by rw [F3]), ⟨w1.1, fun k hk => ?_, hro', ?_, y2⟩, RF_g (fun x j h1 h2 => F2 x j (by omega) (by omega) (by omega) (by omega)) w2, RR_f (fun x j h => F2 x j (by omega) (by omega) (by omega) (by omega)) w3, w4, KP_g (fun x j h => F2 x j (by omega) (by omega) (by omega) (by omega)) w5, TPE_g (fun x j h => F2 x j (by omega) (by omega) (by omega) (by omega)) w6, NTE_g (fun x j h => F2 x j (by omega) (by omega) (by omega) (by omega)) w7, fun i hi => SHE_g hi (fun x j h => F2 x j (by omega) (by omega) (by omega) (by omega)) (w8 i hi)⟩
          · have h2 := hRo 2 m hE.2.2.2.1
            intro k hk
            rw [y3.2 2 k (by decide), rIn (by omega), rIn (by omega), rIn (by omega), rIn (by omega)]
            exact h2 k hk
          · rw [y3.2 1 3 (by decide), rIn (by omega), rIn (by omega), rIn (by omega), rIs]
          · rw [y3.2 1 4 (by decide), rIn (by omega), rIn (by omega), rIs]
          · obtain ⟨b', S, q1, q2, q3⟩ := w1.2.1 k hk
            exact ⟨b', S, q1, ⟨q2.1, by rw [F2 65 _ (by omega) (by omega) (by omega) (by omega)]; exact q2.2.1, fun i hi => by rw [F2 64 _ (by omega) (by omega) (by omega) (by omega)]; exact q2.2.2 i hi⟩, q3⟩
          · have h2 := hRo 67 (pI (pI (pI (pI m 2 (8 * a + b) (nI v)) 2 (8 * b + a) (nI v)) 1 3 (nI 0)) 1 4 (nI (ve + 1))) (fun k hk => by
              rw [rIn (by omega), rIn (by omega), rIn (by omega), rIn (by omega)]; exact w1.2.2.2.1 k hk)
            intro k hk
            rw [y3.2 67 k (by decide)]
            exact h2 k hk
        · simp (disch := omega) only [leT, leF, ltT, ltF, eqT, eqF, inT, n_cl, nI_add, pk_mul, n_div, pk_sub, md8, md2, or_true, true_or, or_false, false_or, Bool.true_eq_false, Bool.false_eq_true, L0, L1, L2, L3, L4, L5, L6, L7, L8, L9, L10, L20, L31, L40, L64, L99, L100, L255, L256, L999, L1000, L99999, ↓reduceIte, L11, L12, L13, L14, L15, L16, L30, L48, L160, K1, K2, K3, K4, K5, K7, K8, K9, K15, K17, K20, K27, K37, K48, K99, K255, inR, isPlace_r, isPlace_c, isSheet_r, bi, d1]
          exact ⟨_, _, _, rfl, by simp (disch := omega) only [leT, leF, ltT, ltF, eqT, eqF, inT, n_cl, nI_add, pk_mul, n_div, pk_sub, md8, md2, or_true, true_or, or_false, false_or, Bool.true_eq_false, Bool.false_eq_true, L0, L1, L2, L3, L4, L5, L6, L7, L8, L9, L10, L20, L31, L40, L64, L99, L100, L255, L256, L999, L1000, L99999, ↓reduceIte, L11, L12, L13, L14, L15, L16, L30, L48, L160, K1, K2, K3, K4, K5, K7, K8, K9, K15, K17, K20, K27, K37, K48, K99, K255, inR, isPlace_r, isPlace_c, isSheet_r, bi, d0], bad⟩
        · simp (disch := omega) only [leT, leF, ltT, ltF, eqT, eqF, inT, n_cl, nI_add, pk_mul, n_div, pk_sub, md8, md2, or_true, true_or, or_false, false_or, Bool.true_eq_false, Bool.false_eq_true, L0, L1, L2, L3, L4, L5, L6, L7, L8, L9, L10, L20, L31, L40, L64, L99, L100, L255, L256, L999, L1000, L99999, ↓reduceIte, L11, L12, L13, L14, L15, L16, L30, L48, L160, K1, K2, K3, K4, K5, K7, K8, K9, K15, K17, K20, K27, K37, K48, K99, K255, inR, isPlace_r, isPlace_c, isSheet_r, bi, d1, d4 99 (by decide)]
          exact ⟨_, _, _, rfl, by simp (disch := omega) only [leT, leF, ltT, ltF, eqT, eqF, inT, n_cl, nI_add, pk_mul, n_div, pk_sub, md8, md2, or_true, true_or, or_false, false_or, Bool.true_eq_false, Bool.false_eq_true, L0, L1, L2, L3, L4, L5, L6, L7, L8, L9, L10, L20, L31, L40, L64, L99, L100, L255, L256, L999, L1000, L99999, ↓reduceIte, L11, L12, L13, L14, L15, L16, L30, L48, L160, K1, K2, K3, K4, K5, K7, K8, K9, K15, K17, K20, K27, K37, K48, K99, K255, inR, isPlace_r, isPlace_c, isSheet_r, bi, d0], bad⟩
    · simp (disch := omega) only [leT, leF, ltT, ltF, eqT, eqF, inT, n_cl, nI_add, pk_mul, n_div, pk_sub, md8, md2, or_true, true_or, or_false, false_or, Bool.true_eq_false, Bool.false_eq_true, L0, L1, L2, L3, L4, L5, L6, L7, L8, L9, L10, L20, L31, L40, L64, L99, L100, L255, L256, L999, L1000, L99999, ↓reduceIte, L11, L12, L13, L14, L15, L16, L30, L48, L160, K1, K2, K3, K4, K5, K7, K8, K9, K15, K17, K20, K27, K37, K48, K99, K255, inR, isPlace_r, isPlace_c, isSheet_r, bi, d0]
      exact ⟨_, _, _, rfl, by simp (disch := omega) only [leT, leF, ltT, ltF, eqT, eqF, inT, n_cl, nI_add, pk_mul, n_div, pk_sub, md8, md2, or_true, true_or, or_false, false_or, Bool.true_eq_false, Bool.false_eq_true, L0, L1, L2, L3, L4, L5, L6, L7, L8, L9, L10, L20, L31, L40, L64, L99, L100, L255, L256, L999, L1000, L99999, ↓reduceIte, L11, L12, L13, L14, L15, L16, L30, L48, L160, K1, K2, K3, K4, K5, K7, K8, K9, K15, K17, K20, K27, K37, K48, K99, K255, inR, isPlace_r, isPlace_c, isSheet_r, bi, d0], bad⟩
  · simp (disch := omega) only [leT, leF, ltT, ltF, eqT, eqF, inT, n_cl, nI_add, pk_mul, n_div, pk_sub, md8, md2, or_true, true_or, or_false, false_or, Bool.true_eq_false, Bool.false_eq_true, L0, L1, L2, L3, L4, L5, L6, L7, L8, L9, L10, L20, L31, L40, L64, L99, L100, L255, L256, L999, L1000, L99999, ↓reduceIte, L11, L12, L13, L14, L15, L16, L30, L48, L160, K1, K2, K3, K4, K5, K7, K8, K9, K15, K17, K20, K27, K37, K48, K99, K255, inR, isPlace_r, isPlace_c, isSheet_r, bi, d0]
    exact ⟨_, _, _, rfl, by simp (disch := omega) only [leT, leF, ltT, ltF, eqT, eqF, inT, n_cl, nI_add, pk_mul, n_div, pk_sub, md8, md2, or_true, true_or, or_false, false_or, Bool.true_eq_false, Bool.false_eq_true, L0, L1, L2, L3, L4, L5, L6, L7, L8, L9, L10, L20, L31, L40, L64, L99, L100, L255, L256, L999, L1000, L99999, ↓reduceIte, L11, L12, L13, L14, L15, L16, L30, L48, L160, K1, K2, K3, K4, K5, K7, K8, K9, K15, K17, K20, K27, K37, K48, K99, K255, inR, isPlace_r, isPlace_c, isSheet_r, bi, d0], bad⟩
