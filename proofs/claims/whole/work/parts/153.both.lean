/-! what THE RULE says: both -/
theorem says_c {cd : Nat → Cd} {r : Nat → Nat} {nt ve f p w t : Nat} {z : Nat → Nat} {m : Mem} {G : Nat → Nat → Nat} (hE : CE cd r nt z ve m) (hR : RF f m G) (hG : GO nt 1019 G) (hf : isFo f) (hp : p < 6) (hw : w < 3) (ht : t < 8) :
    ∃ m', X5_says nt z f (nI p) (nI w) (nI t) m = some (saG cd r G p w t, m') ∧ CE cd r nt z ve m' ∧ FrX m m' := by
  have hE0 := hE
  have hG0 := hG
  obtain ⟨e1, e2, e3, e4, e5, e6, e7, e8⟩ := hE
  obtain ⟨g1, g2, g3, g4⟩ := hG
  obtain ⟨p1, p2, p3, p4, p5, p6⟩ := g4 p hp
  have r2 := hR.1 2 (by decide)
  have hk := keyOf_c hE0 hR hG0 hp
  have pc := popc_le (G 4 p) (by omega)
  have k1 := fK_le (cd (G 0 2))
  have k2 := fO_le (cd (G 0 2))
  have pk : fK (cd (G 0 2)) * popc (G 4 p) < 9 := by
    rcases (show fK (cd (G 0 2)) = 0 ∨ fK (cd (G 0 2)) = 1 by omega) with h | h <;> rw [h] <;> omega
  have pr : fO (cd (G 0 2)) * G 0 1 < 1020 := by
    rcases (show fO (cd (G 0 2)) = 0 ∨ fO (cd (G 0 2)) = 1 by omega) with h | h <;> rw [h] <;> omega
  have kl := key_l (pl := G 3 p) (nu := G 2 p) e7 (show G 0 2 < 6 by omega) (by omega) (by omega) pk pr
  unfold X5_says
  simp (disch := omega) only [leT, leF, ltT, ltF, eqT, eqF, inT, n_cl, nI_add, pk_mul, n_div, pk_sub, md8, Bool.true_eq_false, Bool.false_eq_true, L0, L1, L2, L3, L4, L5, L6, L7, L8, L9, L10, L20, L31, L40, L64, L99, L100, L255, L256, L999, L1000, L99999, ↓reduceIte, r2, g3, wi, hk, bl, lg_cmp_eq]
  by_cases q : m.2 (38 + 2 * p) 0 = lN (keyN ve (G 0 2) (G 3 p) (G 2 p) (fK (cd (G 0 2)) * popc (G 4 p)) (fO (cd (G 0 2)) * G 0 1))
  · have hx : (lg_cmp (m.2 (38 + 2 * p) 0) (lN (keyN ve (G 0 2) (G 3 p) (G 2 p) (fK (cd (G 0 2)) * popc (G 4 p)) (fO (cd (G 0 2)) * G 0 1))) = nI 0) = True := eq_true ((lg_cmp_eq _ _).mpr q)
    simp only [hx, ↓reduceIte]
    refine says60 hE0 hR hG0 hf hp hw ht q (fun w' t' hw' ht' hb => ?_)
    rcases e8 p hp with v | ⟨ru, pl, nu, kc, ro, v1, v2, v3, v4, v5, v6, v7⟩
    · exfalso
      rw [q, pk_lT (by omega)] at v
      omega
    · have f1 := fK_le (cd ru)
      have f2 := fO_le (cd ru)
      have b1 : fK (cd ru) * kc < 9 := by
        rcases (show fK (cd ru) = 0 ∨ fK (cd ru) = 1 by omega) with h | h <;> rw [h] <;> omega
      have b2 : fO (cd ru) * ro < 1020 := by
        rcases (show fO (cd ru) = 0 ∨ fO (cd ru) = 1 by omega) with h | h <;> rw [h] <;> omega
      have kl2 := key_l (pl := pl) (nu := nu) e7 (show ru < 6 by omega) v2 v3 b1 b2
      rw [q, pk_lEQ (by omega) (by omega)] at v6
      obtain ⟨u1, u2, u3, u4, u5⟩ := key_u (by omega) (by omega) (by omega) pk pr (by omega) v2 v3 b1 b2 v6
      subst u1
      subst u2
      subst u3
      rw [v7 w' t' hw' ht' hb]
      unfold saG
      apply sayP_cong
      · intro h
        have h1 : fK (cd (G 0 2)) = 1 := by unfold fK; rw [if_pos h]
        rw [h1] at u4; omega
      · intro h
        have h1 : fO (cd (G 0 2)) = 1 := by unfold fO; rw [if_pos h]
        rw [h1] at u5; omega
  · have hx : (lg_cmp (m.2 (38 + 2 * p) 0) (lN (keyN ve (G 0 2) (G 3 p) (G 2 p) (fK (cd (G 0 2)) * popc (G 4 p)) (fO (cd (G 0 2)) * G 0 1))) = nI 0) = False := eq_false (fun y => q ((lg_cmp_eq _ _).mp y))
    simp only [hx, ↓reduceIte]
    generalize hK : lN (keyN ve (G 0 2) (G 3 p) (G 2 p) (fK (cd (G 0 2)) * popc (G 4 p)) (fO (cd (G 0 2)) * G 0 1)) = K
    have fr : FrX m (pI (pJ m (38 + 2 * p) 0 K) (38 + 2 * p) 1 (nI 0)) := by
      constructor
      · intro x j h1 h2 h3
        rw [rIn (by omega), rJ1]
      · intro x j h1
        rw [rI2, rJ, if_neg (by omega)]
    have nb : ∀ w' t', bp ((pI (pJ m (38 + 2 * p) 0 K) (38 + 2 * p) 1 (nI 0)).1 (38 + 2 * p) 1) (8 * w' + t') = true → False := by
      intro w' t' hb
      rw [rIs, bp_0] at hb
      exact absurd hb (by decide)
    have hE1 : CE cd r nt z ve (pI (pJ m (38 + 2 * p) 0 K) (38 + 2 * p) 1 (nI 0)) := by
      refine CE_u hE0 fr ?_ ?_
      · intro a ha hb u hu
        rw [rIn (by omega), rJ1] at hb ⊢
        exact e5 a ha hb u hu
      · intro i hi
        by_cases ip : i = p
        · subst ip
          exact .inr ⟨G 0 2, G 3 i, G 2 i, popc (G 4 i), G 0 1, g3, by omega, by omega, by omega, by omega, by rw [rI2, rJ, if_pos ⟨rfl, rfl⟩, hK], fun w' t' _ _ hb => (nb w' t' hb).elim⟩
        · refine VwO_s ?_ ?_ ?_ (e8 i hi)
          · rw [rI2, rJ, if_neg (by omega)]
          · rw [rIn (by omega), rJ1]
          · intro j hj; rw [rIn (by omega), rJ1]
    obtain ⟨m', a1, a2, a3⟩ := says60 hE1 (FrX_f hf fr hR) hG0 hf hp hw ht (by rw [rI2, rJ, if_pos ⟨rfl, rfl⟩, hK]) (fun w' t' _ _ hb => (nb w' t' hb).elim)
    exact ⟨m', a1, a2, FrX_t fr a3⟩
/-! the reference -/
def RR (m : Mem) (G : Nat → Nat → Nat) : Prop := m.1 63 11 = nI (G 0 0) ∧ m.1 63 7 = nI (G 0 1) ∧ m.1 63 4 = nI (G 0 2) ∧ (∀ p, p < 6 → m.1 69 (5 * p) = nI (G 2 p) ∧ m.1 69 (5 * p + 1) = nI (G 3 p) ∧ m.1 69 (5 * p + 2) = nI (G 4 p) ∧ m.1 69 (5 * p + 3) = nI (G 5 p) ∧ m.1 69 (5 * p + 4) = nI (G 6 p)) ∧ ∀ p, p < G 0 0 → m.1 68 p = nI (G 1 p)
def RE (cd : Nat → Cd) (r : Nat → Nat) (nt : Nat) (m : Mem) : Prop := nt ≤ 5 ∧ (∀ k, k ≤ nt → ∃ b S, By b S ∧ Tx m k b S ∧ rdT b = .inr (cd k)) ∧ RdO r ∧ Ro m 67 r ∧ ∀ q, q < 64 → m.1 70 q = nI (fwD r q)
def FrA (m m' : Mem) : Prop := (∀ x j, ¬ (x = 63 ∧ 13 ≤ j ∧ j ≤ 27) → m'.1 x j = m.1 x j) ∧ ∀ x j, ¬ (x = 63 ∧ j = 24) → m'.2 x j = m.2 x j
theorem FrA_r (m : Mem) : FrA m m := ⟨fun _ _ _ => rfl, fun _ _ _ => rfl⟩
theorem FrA_t {a b d : Mem} (h : FrA a b) (g : FrA b d) : FrA a d := ⟨fun x j p => (g.1 x j p).trans (h.1 x j p), fun x j p => (g.2 x j p).trans (h.2 x j p)⟩
theorem RR_f {m m' : Mem} {G : Nat → Nat → Nat} (h : ∀ x j, (x = 63 ∧ (j = 11 ∨ j = 7 ∨ j = 4) ∨ x = 69 ∨ x = 68) → m'.1 x j = m.1 x j) (g : RR m G) : RR m' G := by
  obtain ⟨g1, g2, g3, g4, g5⟩ := g
  refine ⟨?_, ?_, ?_, fun p hp => ?_, fun p hp => ?_⟩
  · rw [h 63 11 (by omega)]; exact g1
  · rw [h 63 7 (by omega)]; exact g2
  · rw [h 63 4 (by omega)]; exact g3
  · rw [h 69 _ (by omega), h 69 _ (by omega), h 69 _ (by omega), h 69 _ (by omega), h 69 _ (by omega)]; exact g4 p hp
  · rw [h 68 _ (by omega)]; exact g5 p hp
theorem RE_f {cd : Nat → Cd} {r : Nat → Nat} {nt : Nat} {m m' : Mem} (h : ∀ x j, (x = 64 ∨ x = 65 ∨ x = 67 ∨ x = 70) → m'.1 x j = m.1 x j) (g : RE cd r nt m) : RE cd r nt m' := by
  obtain ⟨g1, g2, g3, g4, g5⟩ := g
  refine ⟨g1, fun k hk => ?_, g3, fun k hk => ?_, fun k hk => ?_⟩
  · obtain ⟨b, S, a1, a2, a3⟩ := g2 k hk
    exact ⟨b, S, a1, ⟨a2.1, by rw [h 65 _ (by omega)]; exact a2.2.1, fun i hi => by rw [h 64 _ (by omega)]; exact a2.2.2 i hi⟩, a3⟩
  · rw [h 67 _ (by omega)]; exact g4 k hk
  · rw [h 70 _ (by omega)]; exact g5 k hk
theorem FrA_rr {m m' : Mem} {G : Nat → Nat → Nat} (h : FrA m m') (g : RR m G) : RR m' G := RR_f (fun x j q => h.1 x j (by omega)) g
theorem FrA_re {cd : Nat → Cd} {r : Nat → Nat} {nt : Nat} {m m' : Mem} (h : FrA m m') (g : RE cd r nt m) : RE cd r nt m' := RE_f (fun x j q => h.1 x j (by omega)) g
theorem asks_r {cd : Nat → Cd} {r : Nat → Nat} {nt R p w t : Nat} {m : Mem} {G : Nat → Nat → Nat} (hE : RE cd r nt m) (hR : RR m G) (hG : GO nt R G) (hp : p < 6) (hw : w < 3) (ht : t < 8) :
    ∃ m', X10_asks (nI w) (nI p) (nI t) m = some (saG cd r G p w t, m') ∧ FrA m m' := by
  obtain ⟨e1, e2, e3, e4, e5⟩ := hE
  obtain ⟨g1, g2, g3, g4⟩ := hG
  obtain ⟨p1, p2, p3, p4, p5, p6⟩ := g4 p hp
  obtain ⟨h1, h2, h3, h4, h5⟩ := hR
  obtain ⟨s2, s3, s4, s5, s6⟩ := h4 p hp
  obtain ⟨b, S, b1, b2, b3⟩ := e2 (G 0 2) g3
  have s7 := e5 (8 * G 3 p + t) (by omega)
  have kn : ∀ m' : Mem, X10_knows (nI p) m' = some (m'.1 69 (5 * p + 2), m') := fun m' => knows_r hp m'
  have fin : ∀ h, h = (if G 3 p = t then 1 else 0) → ∃ m', X10_asks_73 (nI w) (nI h) (pI (pI (pI (pI m 63 13 (nI t)) 63 14 (nI (G 2 p))) 63 15 (nI (popc (G 4 p)))) 63 16 (nI (fwD r (8 * G 3 p + t)))) = some (saG cd r G p w t, m') ∧ FrA m m' := by
    intro h hh
    have hM : ∀ x j, ¬ (x = 63 ∧ 13 ≤ j ∧ j ≤ 27) → (pI (pI (pI (pI (pI (pI m 63 13 (nI t)) 63 14 (nI (G 2 p))) 63 15 (nI (popc (G 4 p)))) 63 16 (nI (fwD r (8 * G 3 p + t)))) 63 17 (nI h)) 63 18 (nI (G 0 1))).1 x j = m.1 x j := fun x j q => by
      rw [rIn (by omega), rIn (by omega), rIn (by omega), rIn (by omega), rIn (by omega), rIn (by omega)]
    obtain ⟨v, m6, c1, c2⟩ := read_r (b := b) (S := S) (t := G 0 2) (w := w) (nm := nmP r (G 3 p) (G 2 p) (popc (G 4 p)) (G 0 1) t) (m := pI (pI (pI (pI (pI (pI m 63 13 (nI t)) 63 14 (nI (G 2 p))) 63 15 (nI (popc (G 4 p)))) 63 16 (nI (fwD r (8 * G 3 p + t)))) 63 17 (nI h)) 63 18 (nI (G 0 1))) b1 ⟨b2.1, by rw [hM _ _ (by omega)]; exact b2.2.1, fun i hi => by rw [hM _ _ (by omega)]; exact b2.2.2 i hi⟩ (fun i hi => by
      rcases (show i = 0 ∨ i = 1 ∨ i = 2 ∨ i = 3 ∨ i = 4 ∨ i = 5 by omega) with rfl | rfl | rfl | rfl | rfl | rfl
      · rw [rIn (by omega), rIn (by omega), rIn (by omega), rIn (by omega), rIn (by omega)]; exact rIs
      · rw [rIn (by omega), rIn (by omega), rIn (by omega), rIn (by omega)]; exact rIs
      · rw [rIn (by omega), rIn (by omega), rIn (by omega)]; exact rIs
      · rw [rIn (by omega), rIn (by omega)]; exact rIs
      · rw [rIn (by omega), hh]; exact rIs
      · exact rIs) hw
    have hv := sayV_of (Tv_1 b3 c2)
    have fr : FrA m m6 := ⟨fun x j q => by rw [c2.1.1 x j (by omega)]; exact hM x j q, fun x j q => by rw [c2.1.2 x j q]; rfl⟩
    unfold X10_asks_73
    by_cases w0 : w = 0
    · have hs : saG cd r G p w t = v := by unfold saG sayP; rw [if_pos w0]; exact hv
      simp (disch := omega) only [leT, leF, ltT, ltF, eqT, eqF, inT, n_cl, nI_add, pk_mul, n_div, pk_sub, md8, Bool.true_eq_false, Bool.false_eq_true, L0, L1, L2, L3, L4, L5, L6, L7, L8, L9, L10, L20, L31, L40, L64, L99, L100, L255, L256, L999, L1000, L99999, ↓reduceIte, rIn, h2, h3, c1, bi]
      exact ⟨m6, by rw [hs], fr⟩
    · have hs : saG cd r G p w t = nI (clN v) := by unfold saG sayP; rw [if_neg w0, hv]
      have hcl := cl_r v m6
      simp only [L0, L99] at hcl
      simp (disch := omega) only [leT, leF, ltT, ltF, eqT, eqF, inT, n_cl, nI_add, pk_mul, n_div, pk_sub, md8, Bool.true_eq_false, Bool.false_eq_true, L0, L1, L2, L3, L4, L5, L6, L7, L8, L9, L10, L20, L31, L40, L64, L99, L100, L255, L256, L999, L1000, L99999, ↓reduceIte, rIn, h2, h3, c1, bi, hcl]
      exact ⟨m6, by rw [hs], fr⟩
  unfold X10_asks
  by_cases hpt : G 3 p = t
  · have := fin 1 (by rw [if_pos hpt])
    simp (disch := omega) only [leT, leF, ltT, ltF, eqT, eqF, inT, n_cl, nI_add, pk_mul, n_div, pk_sub, md8, Bool.true_eq_false, Bool.false_eq_true, L0, L1, L2, L3, L4, L5, L6, L7, L8, L9, L10, L20, L31, L40, L64, L99, L100, L255, L256, L999, L1000, L99999, ↓reduceIte, rIn, s2, s3, s4, s7, kn, bitsOf_r (show G 4 p < 256 by omega), bi]
    exact this
  · have := fin 0 (by rw [if_neg hpt])
    simp (disch := omega) only [leT, leF, ltT, ltF, eqT, eqF, inT, n_cl, nI_add, pk_mul, n_div, pk_sub, md8, Bool.true_eq_false, Bool.false_eq_true, L0, L1, L2, L3, L4, L5, L6, L7, L8, L9, L10, L20, L31, L40, L64, L99, L100, L255, L256, L999, L1000, L99999, ↓reduceIte, rIn, s2, s3, s4, s7, kn, bitsOf_r (show G 4 p < 256 by omega), bi]
    exact this
