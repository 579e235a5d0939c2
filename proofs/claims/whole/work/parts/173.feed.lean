/-! calls: feed, force, set, person, road -/
theorem CE_g {cd : Nat → Cd} {r : Nat → Nat} {nt ve : Nat} {z : Nat → Nat} {m m' : Mem} (hE : CE cd r nt z ve m) (h : ∀ x j, (1 ≤ x ∧ x ≤ 3 ∨ 38 ≤ x ∧ x ≤ 49 ∨ 52 ≤ x ∧ x ≤ 54 ∨ 79 ≤ x) → m'.1 x j = m.1 x j) (h2 : ∀ x j, 38 ≤ x → x ≤ 49 → m'.2 x j = m.2 x j) : CE cd r nt z ve m' := by
  obtain ⟨e1, e2, e3, e4, e5, e6, e7, e8⟩ := hE
  refine ⟨e1, fun k hk => TxC_f (fun x j a b c => h x j (by omega)) (e2 k hk), e3, fun k hk => ?_, fun a ha hb t ht => ?_, ?_, e7, fun i hi => VwO_s (h2 _ _ (by omega) (by omega)) (h _ _ (by omega)) (fun j _ => h _ _ (by omega)) (e8 i hi)⟩
  · rw [h 2 k (by omega)]; exact e4 k hk
  · rw [h 1 3 (by omega)] at hb
    rw [h 3 _ (by omega)]; exact e5 a ha hb t ht
  · rw [h 1 4 (by omega)]; exact e6
theorem o_feed : ob_feed Iv := by
  rintro c nt z m a1 hc ⟨cd, r, rk, G, H, tp, n, ve, hv, hE, hW⟩
  have hW0 := hW
  obtain ⟨w1, w2, w3, w4, w5, w6, w7, w8⟩ := hW
  obtain ⟨t1, t2, t3, t4⟩ := w6
  have bad : Iv (c + 1) nt z m := Iv_0 hv hE hW0
  unfold X9_feed X3_add X10_feed
  rcases dich a1 256 (by omega) with ⟨a, ha, rfl⟩ | ⟨d0, d1 | ⟨d1, d2, d3, d4⟩⟩
  · by_cases q : n = 160
    · simp (disch := omega) only [leT, leF, ltT, ltF, eqT, eqF, inT, n_cl, nI_add, pk_mul, n_div, pk_sub, md8, md2, or_true, true_or, or_false, false_or, Bool.true_eq_false, Bool.false_eq_true, L0, L1, L2, L3, L4, L5, L6, L7, L8, L9, L10, L20, L31, L40, L64, L99, L100, L255, L256, L999, L1000, L99999, ↓reduceIte, L11, L12, L13, L14, L15, L16, L30, L48, L160, K1, K2, K3, K4, K5, K7, K8, K9, K15, K17, K20, K27, K37, K48, K99, K255, inR, isPlace_r, isPlace_c, isSheet_r, bi, t2]
      exact ⟨_, _, _, rfl, by simp (disch := omega) only [leT, leF, ltT, ltF, eqT, eqF, inT, n_cl, nI_add, pk_mul, n_div, pk_sub, md8, md2, or_true, true_or, or_false, false_or, Bool.true_eq_false, Bool.false_eq_true, L0, L1, L2, L3, L4, L5, L6, L7, L8, L9, L10, L20, L31, L40, L64, L99, L100, L255, L256, L999, L1000, L99999, ↓reduceIte, L11, L12, L13, L14, L15, L16, L30, L48, L160, K1, K2, K3, K4, K5, K7, K8, K9, K15, K17, K20, K27, K37, K48, K99, K255, inR, isPlace_r, isPlace_c, isSheet_r, bi, t3], bad⟩
    · simp (disch := omega) only [leT, leF, ltT, ltF, eqT, eqF, inT, n_cl, nI_add, pk_mul, n_div, pk_sub, md8, md2, or_true, true_or, or_false, false_or, Bool.true_eq_false, Bool.false_eq_true, L0, L1, L2, L3, L4, L5, L6, L7, L8, L9, L10, L20, L31, L40, L64, L99, L100, L255, L256, L999, L1000, L99999, ↓reduceIte, L11, L12, L13, L14, L15, L16, L30, L48, L160, K1, K2, K3, K4, K5, K7, K8, K9, K15, K17, K20, K27, K37, K48, K99, K255, inR, isPlace_r, isPlace_c, isSheet_r, bi, t2, rIn, rIs]
      refine ⟨_, _, pI (pI (pI (pI m 31 n (nI a)) 30 1 (nI (n + 1))) 66 n (nI a)) 63 6 (nI (n + 1)), rfl, by simp (disch := omega) only [leT, leF, ltT, ltF, eqT, eqF, inT, n_cl, nI_add, pk_mul, n_div, pk_sub, md8, md2, or_true, true_or, or_false, false_or, Bool.true_eq_false, Bool.false_eq_true, L0, L1, L2, L3, L4, L5, L6, L7, L8, L9, L10, L20, L31, L40, L64, L99, L100, L255, L256, L999, L1000, L99999, ↓reduceIte, L11, L12, L13, L14, L15, L16, L30, L48, L160, K1, K2, K3, K4, K5, K7, K8, K9, K15, K17, K20, K27, K37, K48, K99, K255, inR, isPlace_r, isPlace_c, isSheet_r, bi, t3, rIn, rIs], cd, r, rk, G, H, fun i => if i = n then a else tp i, n + 1, ve, by omega, CE_g hE (fun x j h => ?_) (fun _ _ _ _ => rfl), RE_f (fun x j h => ?_) w1, RF_g (fun x j h1 h2 => ?_) w2, RR_f (fun x j h => ?_) w3, w4, KP_g (fun x j h => ?_) w5, ⟨by omega, ?_, ?_, fun i hi => ?_⟩, NTE_g (fun x j h => ?_) w7, fun i hi => SHE_g hi (fun x j h => ?_) (w8 i hi)⟩
      · rw [rIn (by omega), rIn (by omega), rIn (by omega), rIn (by omega)]
      · rw [rIn (by omega), rIn (by omega), rIn (by omega), rIn (by omega)]
      · rw [rIn (by omega), rIn (by omega), rIn (by omega), rIn (by omega)]
      · rw [rIn (by omega), rIn (by omega), rIn (by omega), rIn (by omega)]
      · rw [rIn (by omega), rIn (by omega), rIn (by omega), rIn (by omega)]
      · rw [rIn (by omega), rIn (by omega), rIs]
      · rw [rIs]
      · by_cases y : i = n
        · subst y
          simp only [↓reduceIte]
          refine ⟨?_, ?_, by omega⟩
          · rw [rIn (by omega), rIn (by omega), rIn (by omega), rIs]
          · rw [rIn (by omega), rIs]
        · simp only [y, ↓reduceIte]
          rw [rIn (by omega), rIn (by omega), rIn (by omega), rIn (by omega), rIn (by omega), rIn (by omega), rIn (by omega), rIn (by omega)]
          exact t4 i (by omega)
      · rw [rIn (by omega), rIn (by omega), rIn (by omega), rIn (by omega)]
      · rw [rIn (by omega), rIn (by omega), rIn (by omega), rIn (by omega)]
  · simp (disch := omega) only [leT, leF, ltT, ltF, eqT, eqF, inT, n_cl, nI_add, pk_mul, n_div, pk_sub, md8, md2, or_true, true_or, or_false, false_or, Bool.true_eq_false, Bool.false_eq_true, L0, L1, L2, L3, L4, L5, L6, L7, L8, L9, L10, L20, L31, L40, L64, L99, L100, L255, L256, L999, L1000, L99999, ↓reduceIte, L11, L12, L13, L14, L15, L16, L30, L48, L160, K1, K2, K3, K4, K5, K7, K8, K9, K15, K17, K20, K27, K37, K48, K99, K255, inR, isPlace_r, isPlace_c, isSheet_r, d1]
    exact ⟨_, _, _, rfl, by simp (disch := omega) only [leT, leF, ltT, ltF, eqT, eqF, inT, n_cl, nI_add, pk_mul, n_div, pk_sub, md8, md2, or_true, true_or, or_false, false_or, Bool.true_eq_false, Bool.false_eq_true, L0, L1, L2, L3, L4, L5, L6, L7, L8, L9, L10, L20, L31, L40, L64, L99, L100, L255, L256, L999, L1000, L99999, ↓reduceIte, L11, L12, L13, L14, L15, L16, L30, L48, L160, K1, K2, K3, K4, K5, K7, K8, K9, K15, K17, K20, K27, K37, K48, K99, K255, inR, isPlace_r, isPlace_c, isSheet_r, bi, d0], bad⟩
  · simp (disch := omega) only [leT, leF, ltT, ltF, eqT, eqF, inT, n_cl, nI_add, pk_mul, n_div, pk_sub, md8, md2, or_true, true_or, or_false, false_or, Bool.true_eq_false, Bool.false_eq_true, L0, L1, L2, L3, L4, L5, L6, L7, L8, L9, L10, L20, L31, L40, L64, L99, L100, L255, L256, L999, L1000, L99999, ↓reduceIte, L11, L12, L13, L14, L15, L16, L30, L48, L160, K1, K2, K3, K4, K5, K7, K8, K9, K15, K17, K20, K27, K37, K48, K99, K255, inR, isPlace_r, isPlace_c, isSheet_r, d1, d4 255 (by decide)]
    exact ⟨_, _, _, rfl, by simp (disch := omega) only [leT, leF, ltT, ltF, eqT, eqF, inT, n_cl, nI_add, pk_mul, n_div, pk_sub, md8, md2, or_true, true_or, or_false, false_or, Bool.true_eq_false, Bool.false_eq_true, L0, L1, L2, L3, L4, L5, L6, L7, L8, L9, L10, L20, L31, L40, L64, L99, L100, L255, L256, L999, L1000, L99999, ↓reduceIte, L11, L12, L13, L14, L15, L16, L30, L48, L160, K1, K2, K3, K4, K5, K7, K8, K9, K15, K17, K20, K27, K37, K48, K99, K255, inR, isPlace_r, isPlace_c, isSheet_r, bi, d0], bad⟩
def gU (G : Fo) (j p v : Nat) : Fo := fun j' p' => if j' = j ∧ p' = p then v else G j' p'
theorem gU_s {G : Fo} {j p v : Nat} : gU G j p v j p = v := by unfold gU; rw [if_pos ⟨rfl, rfl⟩]
theorem gU_n {G : Fo} {j p v j' p' : Nat} (h : j' ≠ j ∨ p' ≠ p) : gU G j p v j' p' = G j' p' := by unfold gU; rw [if_neg (by omega)]
theorem RF_u {f j p v : Nat} {m : Mem} {G : Fo} (h1 : 1 ≤ j) (g : RF f m G) : RF f (pI m (f + j) p (nI v)) (gU G j p v) := by
  refine ⟨fun p' hp => ?_, fun j' p' a b hp => ?_⟩
  · rw [rIn (by omega), gU_n (by omega)]; exact g.1 p' hp
  · by_cases q : j' = j ∧ p' = p
    · obtain ⟨rfl, rfl⟩ := q
      rw [rIs, gU_s]
    · rw [rIn (by omega), gU_n (by omega)]; exact g.2 j' p' a b hp
theorem RF_u0 {f p v : Nat} {m : Mem} {G : Fo} (g : RF f m G) : RF f (pI m f p (nI v)) (gU G 0 p v) := by
  refine ⟨fun p' hp => ?_, fun j' p' a b hp => ?_⟩
  · by_cases q : p' = p
    · subst q; rw [rIs, gU_s]
    · rw [rIn (by omega), gU_n (by omega)]; exact g.1 p' hp
  · rw [rIn (by omega), gU_n (by omega)]; exact g.2 j' p' a b hp
theorem RR_u {j p v : Nat} {m : Mem} {G : Fo} (h1 : 2 ≤ j) (h2 : j ≤ 6) (g : RR m G) : RR (pI m 69 (5 * p + (j - 2)) (nI v)) (gU G j p v) := by
  obtain ⟨g1, g2, g3, g4, g5⟩ := g
  refine ⟨by rw [rIn (by omega), gU_n (by omega)]; exact g1, by rw [rIn (by omega), gU_n (by omega)]; exact g2, by rw [rIn (by omega), gU_n (by omega)]; exact g3, fun p' hp => ?_, fun p' hp => ?_⟩
  · obtain ⟨b1, b2, b3, b4, b5⟩ := g4 p' hp
    have key : ∀ k, 2 ≤ k → k ≤ 6 → m.1 69 (5 * p' + (k - 2)) = nI (G k p') → (pI m 69 (5 * p + (j - 2)) (nI v)).1 69 (5 * p' + (k - 2)) = nI (gU G j p v k p') := by
      intro k k1 k2 hk
      by_cases q : k = j ∧ p' = p
      · obtain ⟨rfl, rfl⟩ := q
        rw [rIs, gU_s]
      · rw [rIn (by omega), gU_n (by omega)]; exact hk
    exact ⟨key 2 (by decide) (by decide) b1, key 3 (by decide) (by decide) b2, key 4 (by decide) (by decide) b3, key 5 (by decide) (by decide) b4, key 6 (by decide) (by decide) b5⟩
  · rw [gU_n (by omega)] at hp
    rw [rIn (by omega), gU_n (by omega)]; exact g5 p' hp
theorem RR_u0 {p v : Nat} {m : Mem} {G : Fo} (hp : p = 1 ∨ p = 2) (g : RR m G) : RR (pI m 63 (if p = 1 then 7 else 4) (nI v)) (gU G 0 p v) := by
  obtain ⟨g1, g2, g3, g4, g5⟩ := g
  rcases hp with rfl | rfl
  all_goals refine ⟨?_, ?_, ?_, fun p' hp => ?_, fun p' hp => ?_⟩
  · rw [rIn (by simp), gU_n (by omega)]; exact g1
  · rw [gU_s]; exact rIs
  · rw [rIn (by simp), gU_n (by omega)]; exact g3
  · rw [rIn (by omega), rIn (by omega), rIn (by omega), rIn (by omega), rIn (by omega), gU_n (by omega), gU_n (by omega), gU_n (by omega), gU_n (by omega), gU_n (by omega)]; exact g4 p' hp
  · rw [gU_n (by omega)] at hp
    rw [rIn (by omega), gU_n (by omega)]; exact g5 p' hp
  · rw [rIn (by simp), gU_n (by omega)]; exact g1
  · rw [rIn (by simp), gU_n (by omega)]; exact g2
  · rw [gU_s]; exact rIs
  · rw [rIn (by omega), rIn (by omega), rIn (by omega), rIn (by omega), rIn (by omega), gU_n (by omega), gU_n (by omega), gU_n (by omega), gU_n (by omega), gU_n (by omega)]; exact g4 p' hp
  · rw [gU_n (by omega)] at hp
    rw [rIn (by omega), gU_n (by omega)]; exact g5 p' hp
theorem RR_u1 {p v : Nat} {m : Mem} {G : Fo} (g : RR m G) : RR (pI m 68 p (nI v)) (gU G 1 p v) := by
  obtain ⟨g1, g2, g3, g4, g5⟩ := g
  refine ⟨by rw [rIn (by omega), gU_n (by omega)]; exact g1, by rw [rIn (by omega), gU_n (by omega)]; exact g2, by rw [rIn (by omega), gU_n (by omega)]; exact g3, fun p' hp => ?_, fun p' hp => ?_⟩
  · rw [rIn (by omega), rIn (by omega), rIn (by omega), rIn (by omega), rIn (by omega), gU_n (by omega), gU_n (by omega), gU_n (by omega), gU_n (by omega), gU_n (by omega)]; exact g4 p' hp
  · rw [gU_n (by omega)] at hp
    by_cases q : p' = p
    · subst q; rw [rIs, gU_s]
    · rw [rIn (by omega), gU_n (by omega)]; exact g5 p' hp
def mxG (nt R j p : Nat) : Nat := if j = 0 then (if p = 0 then 6 else if p = 1 then R else nt) else if j = 1 then 5 else if j = 2 then 9 else if j = 3 then 7 else if j = 4 then 255 else if j = 5 then 255 else 99999
theorem GO_u {nt R j p v : Nat} {G : Fo} (h : v ≤ mxG nt R j p) (g : GO nt R G) : GO nt R (gU G j p v) := by
  obtain ⟨g1, g2, g3, g4⟩ := g
  have key : ∀ j' p', G j' p' ≤ mxG nt R j' p' → gU G j p v j' p' ≤ mxG nt R j' p' := by
    intro j' p' hh
    unfold gU
    split
    · rename_i q; rw [q.1, q.2]; exact h
    · exact hh
  refine ⟨key 0 0 g1, key 0 1 g2, key 0 2 g3, fun p' hp => ?_⟩
  obtain ⟨b1, b2, b3, b4, b5, b6⟩ := g4 p' hp
  exact ⟨key 1 p' b1, key 2 p' b2, key 3 p' b3, key 4 p' b4, key 5 p' b5, key 6 p' b6⟩
theorem o_force : ob_force Iv := by
  rintro c nt z m a1 hc ⟨cd, r, rk, G, H, tp, n, ve, hv, hE, hW⟩
  have hW0 := hW
  obtain ⟨w1, w2, w3, w4, w5, w6, w7, w8⟩ := hW
  obtain ⟨t1, t2⟩ := w7
  have bad : Iv (c + 1) nt z m := Iv_0 hv hE hW0
  have n5 := w1.1
  have s2 := w2.1 2 (by decide)
  have s3 := w3.2.2.1
  have e1 : nI (nt + 1) - nI 1 = nI nt := by rw [pk_sub (by omega)]; rfl
  have e2 : (nI nt).toInt64 = lN nt := nI_l (by omega)
  unfold X9_force X10_force
  rcases dich a1 (nt + 1) (by omega) with ⟨a, ha, rfl⟩ | ⟨d0, d1 | ⟨d1, d2, d3, d4⟩⟩
  · simp (disch := omega) only [leT, leF, ltT, ltF, eqT, eqF, inT, n_cl, nI_add, pk_mul, n_div, pk_sub, md8, md2, or_true, true_or, or_false, false_or, Bool.true_eq_false, Bool.false_eq_true, L0, L1, L2, L3, L4, L5, L6, L7, L8, L9, L10, L20, L31, L40, L64, L99, L100, L255, L256, L999, L1000, L99999, ↓reduceIte, L11, L12, L13, L14, L15, L16, L30, L48, L160, K1, K2, K3, K4, K5, K7, K8, K9, K15, K17, K20, K27, K37, K48, K99, K255, inR, isPlace_r, isPlace_c, isSheet_r, t1, s2]
    refine ⟨_, _, pI (pI m 5 2 (nI a)) 63 4 (nI a), rfl, by simp (disch := omega) only [leT, leF, ltT, ltF, eqT, eqF, inT, n_cl, nI_add, pk_mul, n_div, pk_sub, md8, md2, or_true, true_or, or_false, false_or, Bool.true_eq_false, Bool.false_eq_true, L0, L1, L2, L3, L4, L5, L6, L7, L8, L9, L10, L20, L31, L40, L64, L99, L100, L255, L256, L999, L1000, L99999, ↓reduceIte, L11, L12, L13, L14, L15, L16, L30, L48, L160, K1, K2, K3, K4, K5, K7, K8, K9, K15, K17, K20, K27, K37, K48, K99, K255, inR, isPlace_r, isPlace_c, isSheet_r, bi, rIn, t2, e1, e2, s3], cd, r, rk, gU G 0 2 a, H, tp, n, ve, by omega, CE_g hE (fun x j h => by rw [rIn (by omega), rIn (by omega)]) (fun _ _ _ _ => rfl), IW_fo hW0 (RF_rf fo5 (FRf_1 (by decide)) (RF_u0 w2)) (RR_u0 (.inr rfl) (RR_f (fun x j h => by rw [rIn (by omega)]) w3)) (GO_u (show a ≤ nt by omega) w4) (by rw [gU_n (by omega)]; omega) (fun p _ => gU_n (by omega)) (fun x j h => ?_)⟩
    unfold DuO at h
    rw [rIn (by omega), rIn (by omega)]
  · simp (disch := omega) only [leT, leF, ltT, ltF, eqT, eqF, inT, n_cl, nI_add, pk_mul, n_div, pk_sub, md8, md2, or_true, true_or, or_false, false_or, Bool.true_eq_false, Bool.false_eq_true, L0, L1, L2, L3, L4, L5, L6, L7, L8, L9, L10, L20, L31, L40, L64, L99, L100, L255, L256, L999, L1000, L99999, ↓reduceIte, L11, L12, L13, L14, L15, L16, L30, L48, L160, K1, K2, K3, K4, K5, K7, K8, K9, K15, K17, K20, K27, K37, K48, K99, K255, inR, isPlace_r, isPlace_c, isSheet_r, d1]
    exact ⟨_, _, _, rfl, by simp (disch := omega) only [leT, leF, ltT, ltF, eqT, eqF, inT, n_cl, nI_add, pk_mul, n_div, pk_sub, md8, md2, or_true, true_or, or_false, false_or, Bool.true_eq_false, Bool.false_eq_true, L0, L1, L2, L3, L4, L5, L6, L7, L8, L9, L10, L20, L31, L40, L64, L99, L100, L255, L256, L999, L1000, L99999, ↓reduceIte, L11, L12, L13, L14, L15, L16, L30, L48, L160, K1, K2, K3, K4, K5, K7, K8, K9, K15, K17, K20, K27, K37, K48, K99, K255, inR, isPlace_r, isPlace_c, isSheet_r, bi, t2, e1, e2, d0], bad⟩
  · simp (disch := omega) only [leT, leF, ltT, ltF, eqT, eqF, inT, n_cl, nI_add, pk_mul, n_div, pk_sub, md8, md2, or_true, true_or, or_false, false_or, Bool.true_eq_false, Bool.false_eq_true, L0, L1, L2, L3, L4, L5, L6, L7, L8, L9, L10, L20, L31, L40, L64, L99, L100, L255, L256, L999, L1000, L99999, ↓reduceIte, L11, L12, L13, L14, L15, L16, L30, L48, L160, K1, K2, K3, K4, K5, K7, K8, K9, K15, K17, K20, K27, K37, K48, K99, K255, inR, isPlace_r, isPlace_c, isSheet_r, d1, t1, d3]
    exact ⟨_, _, _, rfl, by simp (disch := omega) only [leT, leF, ltT, ltF, eqT, eqF, inT, n_cl, nI_add, pk_mul, n_div, pk_sub, md8, md2, or_true, true_or, or_false, false_or, Bool.true_eq_false, Bool.false_eq_true, L0, L1, L2, L3, L4, L5, L6, L7, L8, L9, L10, L20, L31, L40, L64, L99, L100, L255, L256, L999, L1000, L99999, ↓reduceIte, L11, L12, L13, L14, L15, L16, L30, L48, L160, K1, K2, K3, K4, K5, K7, K8, K9, K15, K17, K20, K27, K37, K48, K99, K255, inR, isPlace_r, isPlace_c, isSheet_r, bi, t2, e1, e2, d0], bad⟩
