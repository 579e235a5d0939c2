/-! calls: image, back -/
section
variable {cd : Nat → Cd} {r r' : Nat → Nat} {nt ve R f g : Nat} {z : Nat → Nat} {m m' : Mem} {G : Fo}
theorem becl_c (hf : isFo f) (hg : isFo g) (hfg : f ≠ g) : ∀ n i m, i ≤ 6 → 6 - i < n → RF g m G → (∀ p, p < 3 → m.1 f p = nI (G 0 p)) → (∀ j p, 1 ≤ j → j ≤ 6 → p < i → m.1 (f + j) p = nI (G j p)) → ∃ m', X0_become_26 f g n (nI i) m = some m' ∧ RF f m' G ∧ (∀ x j, ¬ (f ≤ x ∧ x ≤ f + 6) → m'.1 x j = m.1 x j) ∧ m'.2 = m.2 := by
  have hf' : f = 5 ∨ f = 16 ∨ f = 23 := hf
  have hg' : g = 5 ∨ g = 16 ∨ g = 23 := hg
  intro n
  induction n with
  | zero => intro i m _ h; omega
  | succ n ih =>
    intro i m hi hn hR h0 h1
    rw [X0_become_26]
    by_cases h6 : i = 6
    · subst h6
      simp (disch := omega) only [leT, leF, ltT, ltF, eqT, eqF, inT, n_cl, nI_add, pk_mul, n_div, pk_sub, md8, md2, or_true, true_or, or_false, false_or, Bool.true_eq_false, Bool.false_eq_true, L0, L1, L2, L3, L4, L5, L6, L7, L8, L9, L10, L20, L31, L40, L64, L99, L100, L255, L256, L999, L1000, L99999, ↓reduceIte]
      exact ⟨m, rfl, ⟨h0, fun j p a b hp => h1 j p a b hp⟩, fun _ _ _ => rfl, rfl⟩
    · have s1 := hR.2 1 i (by decide) (by decide) (by omega)
      have s2 := hR.2 2 i (by decide) (by decide) (by omega)
      have s3 := hR.2 3 i (by decide) (by decide) (by omega)
      have s4 := hR.2 4 i (by decide) (by decide) (by omega)
      have s5 := hR.2 5 i (by decide) (by decide) (by omega)
      have s6 := hR.2 6 i (by decide) (by decide) (by omega)
      obtain ⟨m', a1, a2, a3, a4⟩ := ih (i + 1) (pI (pI (pI (pI (pI (pI m (f + 1) i (nI (G 1 i))) (f + 2) i (nI (G 2 i))) (f + 3) i (nI (G 3 i))) (f + 4) i (nI (G 4 i))) (f + 5) i (nI (G 5 i))) (f + 6) i (nI (G 6 i))) (by omega) (by omega) (RF_g (fun x j a b => by
        rw [rIn (by omega), rIn (by omega), rIn (by omega), rIn (by omega), rIn (by omega), rIn (by omega)]) hR) (fun p hp => by
        rw [rIn (by omega), rIn (by omega), rIn (by omega), rIn (by omega), rIn (by omega), rIn (by omega)]; exact h0 p hp) (fun j p b1 b2 hp => by
        by_cases q : p = i
        · subst q
          rcases (show j = 1 ∨ j = 2 ∨ j = 3 ∨ j = 4 ∨ j = 5 ∨ j = 6 by omega) with rfl | rfl | rfl | rfl | rfl | rfl
          all_goals simp (disch := omega) only [rIn, rIs]
        · rw [rIn (by omega), rIn (by omega), rIn (by omega), rIn (by omega), rIn (by omega), rIn (by omega)]
          exact h1 j p b1 b2 (by omega))
      simp (disch := omega) only [leT, leF, ltT, ltF, eqT, eqF, inT, n_cl, nI_add, pk_mul, n_div, pk_sub, md8, md2, or_true, true_or, or_false, false_or, Bool.true_eq_false, Bool.false_eq_true, L0, L1, L2, L3, L4, L5, L6, L7, L8, L9, L10, L20, L31, L40, L64, L99, L100, L255, L256, L999, L1000, L99999, ↓reduceIte, rIn, s1, s2, s3, s4, s5, s6]
      refine ⟨m', a1, a2, fun x j h => ?_, a4⟩
      rw [a3 x j h, rIn (by omega), rIn (by omega), rIn (by omega), rIn (by omega), rIn (by omega), rIn (by omega)]
theorem become_c (hf : isFo f) (hg : isFo g) (hfg : f ≠ g) (hR : RF g m G) : ∃ m', X0_become f g m = some m' ∧ RF f m' G ∧ (∀ x j, ¬ (f ≤ x ∧ x ≤ f + 6) → m'.1 x j = m.1 x j) ∧ m'.2 = m.2 := by
  have hf' : f = 5 ∨ f = 16 ∨ f = 23 := hf
  have hg' : g = 5 ∨ g = 16 ∨ g = 23 := hg
  have s0 := hR.1 0 (by decide)
  have s1 := hR.1 1 (by decide)
  have s2 := hR.1 2 (by decide)
  unfold X0_become
  simp (disch := omega) only [leT, leF, ltT, ltF, eqT, eqF, inT, n_cl, nI_add, pk_mul, n_div, pk_sub, md8, md2, or_true, true_or, or_false, false_or, Bool.true_eq_false, Bool.false_eq_true, L0, L1, L2, L3, L4, L5, L6, L7, L8, L9, L10, L20, L31, L40, L64, L99, L100, L255, L256, L999, L1000, L99999, ↓reduceIte, rIn, s0, s1, s2]
  obtain ⟨m', a1, a2, a3, a4⟩ := becl_c (G := G) hf hg hfg 10000 0 (pI (pI (pI m f 0 (nI (G 0 0))) f 1 (nI (G 0 1))) f 2 (nI (G 0 2))) (by decide) (by decide) (RF_g (fun x j a b => by rw [rIn (by omega), rIn (by omega), rIn (by omega)]) hR) (fun p hp => by
    rcases (show p = 0 ∨ p = 1 ∨ p = 2 by omega) with rfl | rfl | rfl
    all_goals simp (disch := omega) only [rIn, rIs]) (fun j p _ _ hp => by omega)
  refine ⟨m', a1, a2, fun x j h => ?_, a4⟩
  rw [a3 x j h, rIn (by omega), rIn (by omega), rIn (by omega)]
theorem rC (m : Mem) (a c n x j : Nat) : (pC m a c 0 0 n).1 x j = if x = c ∧ j < n then m.1 a j else m.1 x j := by
  unfold pC va_up va_cpy
  by_cases h : x = c
  · subst h
    by_cases q : j < n
    · simp [q]
    · simp [q]
  · simp [h]
theorem im28 (hR : RR m G) : ∀ n k m, k ≤ 30 → 30 - k < n → RR m G → (∀ j, j < k → m.1 74 j = m.1 69 j) → ∃ m', X10_image_28 n (nI k) m = some (nI (G 0 0), m') ∧ RRk m' G ∧ (∀ x j, ¬ (x = 63 ∧ 33 ≤ j ∧ j ≤ 35) → x ≠ 74 → m'.1 x j = m.1 x j) ∧ m'.2 = m.2 := by
  intro n
  induction n with
  | zero => intro k m _ h; omega
  | succ n ih =>
    intro k m hk hn hR hm
    rw [X10_image_28]
    by_cases h30 : k = 30
    · subst h30
      obtain ⟨g1, g2, g3, g4, g5⟩ := hR
      simp (disch := omega) only [leT, leF, ltT, ltF, eqT, eqF, inT, n_cl, nI_add, pk_mul, n_div, pk_sub, md8, md2, or_true, true_or, or_false, false_or, Bool.true_eq_false, Bool.false_eq_true, L0, L1, L2, L3, L4, L5, L6, L7, L8, L9, L10, L20, L31, L40, L64, L99, L100, L255, L256, L999, L1000, L99999, ↓reduceIte, L11, L12, L13, L14, L15, L16, L30, L48, L160, K1, K2, K3, K4, K5, K7, K8, K9, K15, K17, K20, K27, K37, K48, K99, K255, inR, isPlace_r, isPlace_c, isSheet_r, rIn, g1, g2, g3]
      refine ⟨_, rfl, ⟨by rw [rIn (by omega), rIn (by omega), rIs], by rw [rIn (by omega), rIs], rIs, fun p hp => ?_⟩, fun x j h1 h2 => by rw [rIn (by omega), rIn (by omega), rIn (by omega)], rfl⟩
      rw [rIn (by omega), rIn (by omega), rIn (by omega), rIn (by omega), rIn (by omega), rIn (by omega), rIn (by omega), rIn (by omega), rIn (by omega), rIn (by omega), rIn (by omega), rIn (by omega), rIn (by omega), rIn (by omega), rIn (by omega), hm _ (by omega), hm _ (by omega), hm _ (by omega), hm _ (by omega), hm _ (by omega)]
      exact g4 p hp
    · simp (disch := omega) only [leT, leF, ltT, ltF, eqT, eqF, inT, n_cl, nI_add, pk_mul, n_div, pk_sub, md8, md2, or_true, true_or, or_false, false_or, Bool.true_eq_false, Bool.false_eq_true, L0, L1, L2, L3, L4, L5, L6, L7, L8, L9, L10, L20, L31, L40, L64, L99, L100, L255, L256, L999, L1000, L99999, ↓reduceIte, L11, L12, L13, L14, L15, L16, L30, L48, L160, K1, K2, K3, K4, K5, K7, K8, K9, K15, K17, K20, K27, K37, K48, K99, K255, inR, isPlace_r, isPlace_c, isSheet_r]
      obtain ⟨m', a1, a2, a3, a4⟩ := ih (k + 1) (pI m 74 k (m.1 69 k)) (by omega) (by omega) (RR_f (fun x j h => by rw [rIn (by omega)]) hR) (fun j hj => by
        by_cases q : j = k
        · subst q; rw [rIs, rIn (by omega)]
        · rw [rIn (by omega), rIn (by omega)]; exact hm j (by omega))
      exact ⟨m', a1, a2, fun x j h1 h2 => by rw [a3 x j h1 h2, rIn (by omega)], a4⟩
theorem im2 : ∀ n k m, k ≤ 64 → 64 - k < n → RR m G → Ro m 67 r → (∀ j, j < k → m.1 73 j = nI (r j)) → ∃ m', X10_image_2 n (nI k) m = some (nI (G 0 0), m') ∧ RRk m' G ∧ Ro m' 73 r ∧ (∀ x j, ¬ (x = 63 ∧ 33 ≤ j ∧ j ≤ 35) → x ≠ 74 → x ≠ 73 → m'.1 x j = m.1 x j) ∧ m'.2 = m.2 := by
  intro n
  induction n with
  | zero => intro k m _ h; omega
  | succ n ih =>
    intro k m hk hn hR ho hm
    rw [X10_image_2]
    by_cases h30 : k = 64
    · subst h30
      simp (disch := omega) only [leT, leF, ltT, ltF, eqT, eqF, inT, n_cl, nI_add, pk_mul, n_div, pk_sub, md8, md2, or_true, true_or, or_false, false_or, Bool.true_eq_false, Bool.false_eq_true, L0, L1, L2, L3, L4, L5, L6, L7, L8, L9, L10, L20, L31, L40, L64, L99, L100, L255, L256, L999, L1000, L99999, ↓reduceIte, L11, L12, L13, L14, L15, L16, L30, L48, L160, K1, K2, K3, K4, K5, K7, K8, K9, K15, K17, K20, K27, K37, K48, K99, K255, inR, isPlace_r, isPlace_c, isSheet_r]
      obtain ⟨m', a1, a2, a3, a4⟩ := im28 hR 10000 0 m (by decide) (by decide) hR (fun j hj => by omega)
      exact ⟨m', a1, a2, fun k hk => by rw [a3 73 k (by omega) (by omega)]; exact hm k hk, fun x j h1 h2 _ => a3 x j h1 h2, a4⟩
    · have e := ho k (by omega)
      simp (disch := omega) only [leT, leF, ltT, ltF, eqT, eqF, inT, n_cl, nI_add, pk_mul, n_div, pk_sub, md8, md2, or_true, true_or, or_false, false_or, Bool.true_eq_false, Bool.false_eq_true, L0, L1, L2, L3, L4, L5, L6, L7, L8, L9, L10, L20, L31, L40, L64, L99, L100, L255, L256, L999, L1000, L99999, ↓reduceIte, L11, L12, L13, L14, L15, L16, L30, L48, L160, K1, K2, K3, K4, K5, K7, K8, K9, K15, K17, K20, K27, K37, K48, K99, K255, inR, isPlace_r, isPlace_c, isSheet_r, e]
      obtain ⟨m', a1, a2, a3, a4, a5⟩ := ih (k + 1) (pI m 73 k (nI (r k))) (by omega) (by omega) (RR_f (fun x j h => by rw [rIn (by omega)]) hR) (fun j hj => by rw [rIn (by omega)]; exact ho j hj) (fun j hj => by
        by_cases q : j = k
        · subst q; rw [rIs]
        · rw [rIn (by omega)]; exact hm j (by omega))
      exact ⟨m', a1, a2, a3, fun x j h1 h2 h3 => by rw [a4 x j h1 h2 h3, rIn (by omega)], a5⟩
theorem ba39 (hr : RdO r) : ∀ n k m, k ≤ 30 → 30 - k < n → RRk m G → Ro m 67 r → (∀ j, j < k → m.1 69 j = m.1 74 j) → (∀ p, p < G 0 0 → m.1 68 p = nI (G 1 p)) → ∃ m', X10_back_39 n (nI k) m = some (nI (G 0 0), m') ∧ RR m' G ∧ (∀ q, q < 64 → m'.1 70 q = nI (fwD r q)) ∧ (∀ x j, ¬ (x = 63 ∧ (j = 4 ∨ j = 7 ∨ j = 11)) → x ≠ 69 → x ≠ 70 → m'.1 x j = m.1 x j) ∧ m'.2 = m.2 := by
  intro n
  induction n with
  | zero => intro k m _ h; omega
  | succ n ih =>
    intro k m hk hn hR ho hm hk1
    rw [X10_back_39]
    by_cases h30 : k = 30
    · subst h30
      obtain ⟨m1, b1, b2, b3⟩ := spreads_r hr.1 ho
      obtain ⟨g1, g2, g3, g4⟩ := hR
      have q1 : m1.1 63 33 = nI (G 0 0) := by rw [b3.2 _ _ (by decide)]; exact g1
      have q2 : m1.1 63 34 = nI (G 0 1) := by rw [b3.2 _ _ (by decide)]; exact g2
      have q3 : m1.1 63 35 = nI (G 0 2) := by rw [b3.2 _ _ (by decide)]; exact g3
      simp (disch := omega) only [leT, leF, ltT, ltF, eqT, eqF, inT, n_cl, nI_add, pk_mul, n_div, pk_sub, md8, md2, or_true, true_or, or_false, false_or, Bool.true_eq_false, Bool.false_eq_true, L0, L1, L2, L3, L4, L5, L6, L7, L8, L9, L10, L20, L31, L40, L64, L99, L100, L255, L256, L999, L1000, L99999, ↓reduceIte, L11, L12, L13, L14, L15, L16, L30, L48, L160, K1, K2, K3, K4, K5, K7, K8, K9, K15, K17, K20, K27, K37, K48, K99, K255, inR, isPlace_r, isPlace_c, isSheet_r, b1, bv, rIn, rIs, q1, q2, q3]
      refine ⟨_, rfl, ⟨by rw [rIn (by omega), rIn (by omega), rIs], by rw [rIn (by omega), rIs], rIs, fun p hp => ?_, fun p hp => ?_⟩, fun q hq => by rw [rIn (by omega), rIn (by omega), rIn (by omega)]; exact b2 q hq, fun x j h1 h2 h3 => by rw [rIn (by omega), rIn (by omega), rIn (by omega), b3.2 x j h3], by rw [rI2, rI2, rI2, b3.1]⟩
      · rw [rIn (by omega), rIn (by omega), rIn (by omega), rIn (by omega), rIn (by omega), rIn (by omega), rIn (by omega), rIn (by omega), rIn (by omega), rIn (by omega), rIn (by omega), rIn (by omega), rIn (by omega), rIn (by omega), rIn (by omega), b3.2 _ _ (by decide), b3.2 _ _ (by decide), b3.2 _ _ (by decide), b3.2 _ _ (by decide), b3.2 _ _ (by decide), hm _ (by omega), hm _ (by omega), hm _ (by omega), hm _ (by omega), hm _ (by omega)]
        exact g4 p hp
      · rw [rIn (by omega), rIn (by omega), rIn (by omega), b3.2 _ _ (by decide)]; exact hk1 p hp
    · simp (disch := omega) only [leT, leF, ltT, ltF, eqT, eqF, inT, n_cl, nI_add, pk_mul, n_div, pk_sub, md8, md2, or_true, true_or, or_false, false_or, Bool.true_eq_false, Bool.false_eq_true, L0, L1, L2, L3, L4, L5, L6, L7, L8, L9, L10, L20, L31, L40, L64, L99, L100, L255, L256, L999, L1000, L99999, ↓reduceIte, L11, L12, L13, L14, L15, L16, L30, L48, L160, K1, K2, K3, K4, K5, K7, K8, K9, K15, K17, K20, K27, K37, K48, K99, K255, inR, isPlace_r, isPlace_c, isSheet_r]
      obtain ⟨g1, g2, g3, g4⟩ := hR
      obtain ⟨m', a1, a2, a3, a4, a5⟩ := ih (k + 1) (pI m 69 k (m.1 74 k)) (by omega) (by omega) ⟨by rw [rIn (by omega)]; exact g1, by rw [rIn (by omega)]; exact g2, by rw [rIn (by omega)]; exact g3, fun p hp => by rw [rIn (by omega), rIn (by omega), rIn (by omega), rIn (by omega), rIn (by omega)]; exact g4 p hp⟩ (fun j hj => by rw [rIn (by omega)]; exact ho j hj) (fun j hj => by
        by_cases q : j = k
        · subst q; rw [rIs, rIn (by omega)]
        · rw [rIn (by omega), rIn (by omega)]; exact hm j (by omega)) (fun p hp => by rw [rIn (by omega)]; exact hk1 p hp)
      exact ⟨m', a1, a2, a3, fun x j h1 h2 h3 => by rw [a4 x j h1 h2 h3, rIn (by omega)], a5⟩
theorem ba13 (hr : RdO r) : ∀ n k m, k ≤ 64 → 64 - k < n → RRk m G → Ro m 73 r → (∀ j, j < k → m.1 67 j = nI (r j)) → (∀ p, p < G 0 0 → m.1 68 p = nI (G 1 p)) → ∃ m', X10_back_13 n (nI k) m = some (nI (G 0 0), m') ∧ RR m' G ∧ Ro m' 67 r ∧ (∀ q, q < 64 → m'.1 70 q = nI (fwD r q)) ∧ (∀ x j, ¬ (x = 63 ∧ (j = 4 ∨ j = 7 ∨ j = 11)) → x ≠ 69 → x ≠ 70 → x ≠ 67 → m'.1 x j = m.1 x j) ∧ m'.2 = m.2 := by
  intro n
  induction n with
  | zero => intro k m _ h; omega
  | succ n ih =>
    intro k m hk hn hR ho hm hk1
    rw [X10_back_13]
    by_cases h30 : k = 64
    · subst h30
      simp (disch := omega) only [leT, leF, ltT, ltF, eqT, eqF, inT, n_cl, nI_add, pk_mul, n_div, pk_sub, md8, md2, or_true, true_or, or_false, false_or, Bool.true_eq_false, Bool.false_eq_true, L0, L1, L2, L3, L4, L5, L6, L7, L8, L9, L10, L20, L31, L40, L64, L99, L100, L255, L256, L999, L1000, L99999, ↓reduceIte, L11, L12, L13, L14, L15, L16, L30, L48, L160, K1, K2, K3, K4, K5, K7, K8, K9, K15, K17, K20, K27, K37, K48, K99, K255, inR, isPlace_r, isPlace_c, isSheet_r]
      obtain ⟨m', a1, a2, a3, a4, a5⟩ := ba39 hr 10000 0 m (by decide) (by decide) hR hm (fun j hj => by omega) hk1
      exact ⟨m', a1, a2, fun k hk => by rw [a4 67 k (by omega) (by omega) (by omega)]; exact hm k hk, a3, fun x j h1 h2 h3 _ => a4 x j h1 h2 h3, a5⟩
    · have e := ho k (by omega)
      simp (disch := omega) only [leT, leF, ltT, ltF, eqT, eqF, inT, n_cl, nI_add, pk_mul, n_div, pk_sub, md8, md2, or_true, true_or, or_false, false_or, Bool.true_eq_false, Bool.false_eq_true, L0, L1, L2, L3, L4, L5, L6, L7, L8, L9, L10, L20, L31, L40, L64, L99, L100, L255, L256, L999, L1000, L99999, ↓reduceIte, L11, L12, L13, L14, L15, L16, L30, L48, L160, K1, K2, K3, K4, K5, K7, K8, K9, K15, K17, K20, K27, K37, K48, K99, K255, inR, isPlace_r, isPlace_c, isSheet_r, e]
      obtain ⟨g1, g2, g3, g4⟩ := hR
      obtain ⟨m', a1, a2, a3, a4, a5, a6⟩ := ih (k + 1) (pI m 67 k (nI (r k))) (by omega) (by omega) ⟨by rw [rIn (by omega)]; exact g1, by rw [rIn (by omega)]; exact g2, by rw [rIn (by omega)]; exact g3, fun p hp => by rw [rIn (by omega), rIn (by omega), rIn (by omega), rIn (by omega), rIn (by omega)]; exact g4 p hp⟩ (fun j hj => by rw [rIn (by omega)]; exact ho j hj) (fun j hj => by
        by_cases q : j = k
        · subst q; rw [rIs]
        · rw [rIn (by omega)]; exact hm j (by omega)) (fun p hp => by rw [rIn (by omega)]; exact hk1 p hp)
      exact ⟨m', a1, a2, a3, a4, fun x j h1 h2 h3 h4 => by rw [a5 x j h1 h2 h3 h4, rIn (by omega)], a6⟩
end
theorem o_image : ob_image Iv := by
  rintro c nt z m hc ⟨cd, r, rk, G, H, tp, n, ve, hv, hE, hW⟩
  obtain ⟨w1, w2, w3, w4, w5, w6, w7, w8⟩ := hW
  have hK : ∃ mk, X4_becomeK m = some mk ∧ Ro mk 13 r ∧ (∀ x j, x ≠ 12 → x ≠ 13 → mk.1 x j = m.1 x j) ∧ mk.2 = m.2 := by
    unfold X4_becomeK
    rw [if_pos (by decide)]
    refine ⟨_, rfl, fun k hk => ?_, fun x j h1 h2 => ?_, rfl⟩
    · rw [rIn (by omega), rIn (by omega), show (0 : Int32).toNatClampNeg = 0 from rfl, show (64 : Int32).toNatClampNeg = 64 from rfl, rC, if_pos ⟨rfl, hk⟩]
      exact hE.2.2.2.1 k hk
    · rw [rIn (by omega), rIn (by omega), show (0 : Int32).toNatClampNeg = 0 from rfl, show (64 : Int32).toNatClampNeg = 64 from rfl, rC, if_neg (by omega)]
  obtain ⟨mk, k1, k2, k3, k4⟩ := hK
  obtain ⟨m1, b1, b2, b3, b4⟩ := become_c (f := 16) (g := 5) fo16 fo5 (by decide) (RF_g (fun x j a b => k3 x j (by omega) (by omega)) w2)
  have F1 : ∀ x j, x ≠ 0 → ¬ (12 ≤ x ∧ x ≤ 22) → (pI m1 0 4 (nI 1)).1 x j = m.1 x j := fun x j h1 h2 => by rw [rIn (by omega), b3 x j (by omega), k3 x j (by omega) (by omega)]
  obtain ⟨m2, y1, y2, y3, y4, y5⟩ := im2 (r := r) (G := G) 10000 0 (pI m1 0 4 (nI 1)) (by decide) (by decide) (RR_f (fun x j h => F1 x j (by omega) (by omega)) w3) (fun k hk => by rw [F1 67 k (by omega) (by omega)]; exact w1.2.2.2.1 k hk) (fun j hj => by omega)
  have F2 : ∀ x j, x ≠ 0 → ¬ (12 ≤ x ∧ x ≤ 22) → ¬ (x = 63 ∧ 33 ≤ j ∧ j ≤ 35) → x ≠ 74 → x ≠ 73 → m2.1 x j = m.1 x j := fun x j h1 h2 h3 h4 h5 => by rw [y4 x j h3 h4 h5, F1 x j h1 h2]
  have s0 : (pI m1 0 4 (1 : Int32)).1 5 0 = nI (G 0 0) := by rw [rIn (by omega), b3 5 0 (by omega), k3 5 0 (by omega) (by omega)]; exact w2.1 0 (by decide)
  refine ⟨nI (G 0 0), pI m1 0 4 (nI 1), m2, ?_, y1, cd, r, r, G, G, tp, n, ve, by omega, CE_g hE (fun x j h => F2 x j (by omega) (by omega) (by omega) (by omega) (by omega)) (fun x j _ _ => by rw [y5, rI2, b4, k4]), RE_f (fun x j h => F2 x j (by omega) (by omega) (by omega) (by omega) (by omega)) w1, RF_g (fun x j h1 h2 => F2 x j (by omega) (by omega) (by omega) (by omega) (by omega)) w2, RR_f (fun x j h => F2 x j (by omega) (by omega) (by omega) (by omega) (by omega)) w3, w4, .inr ⟨?_, ?_, w4, y2, ?_, y3, w1.2.2.1, Nat.le_refl _, fun _ _ => rfl⟩, TPE_g (fun x j h => F2 x j (by omega) (by omega) (by omega) (by omega) (by omega)) w6, NTE_g (fun x j h => F2 x j (by omega) (by omega) (by omega) (by omega) (by omega)) w7, fun i hi => SHE_g hi (fun x j h => F2 x j (by omega) (by omega) (by omega) (by omega) (by omega)) (w8 i hi)⟩
  · unfold X9_image
    simp only [k1, bv, b1]
    rw [s0]; rfl
  · rw [y4 0 4 (by omega) (by omega) (by omega), rIs]
  · exact RF_g (fun x j h1 h2 => by rw [y4 x j (by omega) (by omega) (by omega), rIn (by omega)]) b2
  · intro k hk
    rw [y4 13 k (by omega) (by omega) (by omega), rIn (by omega), b3 13 k (by omega)]
    exact k2 k hk
theorem o_back : ob_back Iv := by
  rintro c nt z m hc ⟨cd, r, rk, G, H, tp, n, ve, hv, hE, hW⟩
  have bad : Iv (c + 1) nt z m := Iv_0 hv hE hW
  obtain ⟨w1, w2, w3, w4, w5, w6, w7, w8⟩ := hW
  unfold X9_back X10_back
  rcases w5 with ⟨u1, u2⟩ | ⟨u1, u2, u3, u4, u5, u6, u7, u8, u9⟩
  · refine ⟨-nI 3, m, m, ?_, ?_, bad⟩
    · simp (disch := omega) only [leT, leF, ltT, ltF, eqT, eqF, inT, n_cl, nI_add, pk_mul, n_div, pk_sub, md8, md2, or_true, true_or, or_false, false_or, Bool.true_eq_false, Bool.false_eq_true, L0, L1, L2, L3, L4, L5, L6, L7, L8, L9, L10, L20, L31, L40, L64, L99, L100, L255, L256, L999, L1000, L99999, ↓reduceIte, L11, L12, L13, L14, L15, L16, L30, L48, L160, K1, K2, K3, K4, K5, K7, K8, K9, K15, K17, K20, K27, K37, K48, K99, K255, inR, isPlace_r, isPlace_c, isSheet_r, u1]
    · simp (disch := omega) only [leT, leF, ltT, ltF, eqT, eqF, inT, n_cl, nI_add, pk_mul, n_div, pk_sub, md8, md2, or_true, true_or, or_false, false_or, Bool.true_eq_false, Bool.false_eq_true, L0, L1, L2, L3, L4, L5, L6, L7, L8, L9, L10, L20, L31, L40, L64, L99, L100, L255, L256, L999, L1000, L99999, ↓reduceIte, L11, L12, L13, L14, L15, L16, L30, L48, L160, K1, K2, K3, K4, K5, K7, K8, K9, K15, K17, K20, K27, K37, K48, K99, K255, inR, isPlace_r, isPlace_c, isSheet_r, u2]
  · have hK : ∃ mk, X4_becomeB m = some mk ∧ Ro mk 2 rk ∧ mk.1 1 3 = nI 0 ∧ mk.1 1 4 = nI (ve + 1) ∧ (∀ x j, x ≠ 1 → x ≠ 2 → mk.1 x j = m.1 x j) ∧ mk.2 = m.2 := by
      unfold X4_becomeB
      rw [if_pos (by decide)]
      refine ⟨_, rfl, fun k hk => ?_, ?_, ?_, fun x j h1 h2 => ?_, rfl⟩
      · rw [rIn (by omega), rIn (by omega), show (0 : Int32).toNatClampNeg = 0 from rfl, show (64 : Int32).toNatClampNeg = 64 from rfl, rC, if_pos ⟨rfl, hk⟩]
        exact u5 k hk
      · rw [rIn (by omega), rIs]; rfl
      · rw [rIs, rIn (by omega), show (0 : Int32).toNatClampNeg = 0 from rfl, show (64 : Int32).toNatClampNeg = 64 from rfl, rC, if_neg (by omega), hE.2.2.2.2.2.1]
        exact nI_1 ve
      · rw [rIn (by omega), rIn (by omega), show (0 : Int32).toNatClampNeg = 0 from rfl, show (64 : Int32).toNatClampNeg = 64 from rfl, rC, if_neg (by omega)]
    obtain ⟨mk, k1, k2, k3, k4, k5, k6⟩ := hK
    obtain ⟨m1, b1, b2, b3, b4⟩ := become_c (f := 5) (g := 16) fo5 fo16 (by decide) (RF_g (fun x j a b => k5 x j (by omega) (by omega)) u2)
    have F1 : ∀ x j, ¬ (1 ≤ x ∧ x ≤ 2) → ¬ (5 ≤ x ∧ x ≤ 11) → m1.1 x j = m.1 x j := fun x j h1 h2 => by rw [b3 x j (by omega), k5 x j (by omega) (by omega)]
    obtain ⟨v1, v2, v3, v4⟩ := u4
    have K1 : RRk m1 H := ⟨by rw [F1 _ _ (by omega) (by omega)]; exact v1, by rw [F1 _ _ (by omega) (by omega)]; exact v2, by rw [F1 _ _ (by omega) (by omega)]; exact v3, fun p hp => by rw [F1 _ _ (by omega) (by omega), F1 _ _ (by omega) (by omega), F1 _ _ (by omega) (by omega), F1 _ _ (by omega) (by omega), F1 _ _ (by omega) (by omega)]; exact v4 p hp⟩
    obtain ⟨m2, y1, y2, y3, y4, y5, y6⟩ := ba13 (r := rk) (G := H) u7 10000 0 m1 (by decide) (by decide) K1 (fun k hk => by rw [F1 73 k (by omega) (by omega)]; exact u6 k hk) (fun j hj => by omega) (fun p hp => by rw [F1 68 p (by omega) (by omega), u9 p hp]; exact w3.2.2.2.2 p (by omega))
    have F2 : ∀ x j, ¬ (1 ≤ x ∧ x ≤ 2) → ¬ (5 ≤ x ∧ x ≤ 11) → ¬ (x = 63 ∧ (j = 4 ∨ j = 7 ∨ j = 11)) → x ≠ 69 → x ≠ 70 → x ≠ 67 → m2.1 x j = m.1 x j := fun x j h1 h2 h3 h4 h5 h6 => by rw [y5 x j h3 h4 h5 h6, F1 x j h1 h2]
    have K2 : ∀ x j, ¬ (63 ≤ x ∧ x ≤ 78) → m2.1 x j = m1.1 x j := fun x j h => y5 x j (by omega) (by omega) (by omega) (by omega)
    have h33 : (m1.1 63 33 = -nI 1) = False := eq_false (by
      rw [F1 63 33 (by omega) (by omega), v1]
      intro q
      have h6 := u3.1
      have := (nbI_e (b := H 0 0) (by omega)).mp (by unfold nbI; rw [if_neg (by omega)]; exact q)
      omega)
    refine ⟨nI (H 0 0), m1, m2, ?_, ?_, cd, rk, rk, H, H, tp, n, ve + 1, by omega, CE_new hE (by omega) u7 (fun k hk => by rw [K2 2 k (by omega), b3 2 k (by omega)]; exact k2 k hk) (by rw [K2 1 3 (by omega), b3 1 3 (by omega)]; exact k3) (by rw [K2 1 4 (by omega), b3 1 4 (by omega)]; exact k4) (fun x j h1 h2 => F2 x j (by omega) (by omega) (by omega) (by omega) (by omega) (by omega)) (fun x j _ _ => by rw [y6, b4, k6]), ⟨w1.1, fun k hk => ?_, u7, y3, y4⟩, RF_g (fun x j h1 h2 => K2 x j (by omega)) b2, y2, u3, .inr ⟨?_, ?_, u3, ?_, ?_, ?_, u7, Nat.le_refl _, fun _ _ => rfl⟩, TPE_g (fun x j h => F2 x j (by omega) (by omega) (by omega) (by omega) (by omega) (by omega)) w6, NTE_g (fun x j h => F2 x j (by omega) (by omega) (by omega) (by omega) (by omega) (by omega)) w7, fun i hi => SHE_g hi (fun x j h => F2 x j (by omega) (by omega) (by omega) (by omega) (by omega) (by omega)) (w8 i hi)⟩
    · have s0 := b2.1 0 (by decide)
      simp (disch := omega) only [leT, leF, ltT, ltF, eqT, eqF, inT, n_cl, nI_add, pk_mul, n_div, pk_sub, md8, md2, or_true, true_or, or_false, false_or, Bool.true_eq_false, Bool.false_eq_true, L0, L1, L2, L3, L4, L5, L6, L7, L8, L9, L10, L20, L31, L40, L64, L99, L100, L255, L256, L999, L1000, L99999, ↓reduceIte, L11, L12, L13, L14, L15, L16, L30, L48, L160, K1, K2, K3, K4, K5, K7, K8, K9, K15, K17, K20, K27, K37, K48, K99, K255, inR, isPlace_r, isPlace_c, isSheet_r, u1, k1, bv, b1, s0]
    · simp (disch := omega) only [leT, leF, ltT, ltF, eqT, eqF, inT, n_cl, nI_add, pk_mul, n_div, pk_sub, md8, md2, or_true, true_or, or_false, false_or, Bool.true_eq_false, Bool.false_eq_true, L0, L1, L2, L3, L4, L5, L6, L7, L8, L9, L10, L20, L31, L40, L64, L99, L100, L255, L256, L999, L1000, L99999, ↓reduceIte, L11, L12, L13, L14, L15, L16, L30, L48, L160, K1, K2, K3, K4, K5, K7, K8, K9, K15, K17, K20, K27, K37, K48, K99, K255, inR, isPlace_r, isPlace_c, isSheet_r, h33]
      exact y1
    · obtain ⟨b', S, q1, q2, q3⟩ := w1.2.1 k hk
      exact ⟨b', S, q1, ⟨q2.1, by rw [F2 65 _ (by omega) (by omega) (by omega) (by omega) (by omega) (by omega)]; exact q2.2.1, fun i hi => by rw [F2 64 _ (by omega) (by omega) (by omega) (by omega) (by omega) (by omega)]; exact q2.2.2 i hi⟩, q3⟩
    · rw [F2 0 4 (by omega) (by omega) (by omega) (by omega) (by omega) (by omega)]; exact u1
    · exact RF_g (fun x j h1 h2 => F2 x j (by omega) (by omega) (by omega) (by omega) (by omega) (by omega)) u2
    · exact ⟨by rw [F2 _ _ (by omega) (by omega) (by omega) (by omega) (by omega) (by omega)]; exact v1, by rw [F2 _ _ (by omega) (by omega) (by omega) (by omega) (by omega) (by omega)]; exact v2, by rw [F2 _ _ (by omega) (by omega) (by omega) (by omega) (by omega) (by omega)]; exact v3, fun p hp => by rw [F2 _ _ (by omega) (by omega) (by omega) (by omega) (by omega) (by omega), F2 _ _ (by omega) (by omega) (by omega) (by omega) (by omega) (by omega), F2 _ _ (by omega) (by omega) (by omega) (by omega) (by omega) (by omega), F2 _ _ (by omega) (by omega) (by omega) (by omega) (by omega) (by omega), F2 _ _ (by omega) (by omega) (by omega) (by omega) (by omega) (by omega)]; exact v4 p hp⟩
    · exact fun k hk => by rw [F2 13 k (by omega) (by omega) (by omega) (by omega) (by omega) (by omega)]; exact u5 k hk
    · exact fun k hk => by rw [F2 73 k (by omega) (by omega) (by omega) (by omega) (by omega) (by omega)]; exact u6 k hk
