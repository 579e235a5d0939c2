/-! what THE RULE says, as it is kept -/
theorem rIn {m : Mem} {a k b j : Nat} {v : Int32} (h : b ≠ a ∨ j ≠ k) : (pI m a k v).1 b j = m.1 b j := by rw [rI, if_neg (by omega)]
theorem rIs {m : Mem} {a k : Nat} {v : Int32} : (pI m a k v).1 a k = v := by rw [rI, if_pos ⟨rfl, rfl⟩]
theorem tid_ge (k : Nat) : 52 ≤ tid k := by unfold tid; split <;> omega
theorem TxC_f {m m' : Mem} {z : Nat → Nat} {k : Nat} {c : Cd} (h : ∀ x j, 52 ≤ x → ¬ (63 ≤ x ∧ x ≤ 78) → ¬ (55 ≤ x ∧ x ≤ 62) → m'.1 x j = m.1 x j) (g : TxC m z k c) : TxC m' z k c := by
  have ht : ∀ i, i < 3 → 52 ≤ tid k + i ∧ ¬ (63 ≤ tid k + i ∧ tid k + i ≤ 78) ∧ ¬ (55 ≤ tid k + i ∧ tid k + i ≤ 62) := by
    intro i hi; unfold tid; split <;> omega
  obtain ⟨⟨g1, g2, g3, g4, g5, g6, g7, g8, g9⟩, k2, k3, k4⟩ := g
  have f0 := ht 0 (by decide)
  rw [Nat.add_zero] at f0
  have f1 := ht 1 (by decide)
  have f2 := ht 2 (by decide)
  refine ⟨⟨g1, g2, g3, g4, g5, ?_, ?_, ?_, fun i hi => ?_⟩, ?_, ?_, k4⟩
  · rw [h _ _ f2.1 f2.2.1 f2.2.2]; exact g6
  · rw [h _ _ f2.1 f2.2.1 f2.2.2]; exact g7
  · rw [h _ _ f2.1 f2.2.1 f2.2.2]; exact g8
  · rw [h _ _ f1.1 f1.2.1 f1.2.2]; exact g9 i hi
  · rw [h _ _ f0.1 f0.2.1 f0.2.2]; exact k2
  · rw [h _ _ f0.1 f0.2.1 f0.2.2]; exact k3
theorem CE_u {cd : Nat → Cd} {r : Nat → Nat} {nt ve : Nat} {z : Nat → Nat} {m m' : Mem} (hE : CE cd r nt z ve m) (h : FrX m m') (hs : SvO r m') (hv : ∀ i, i < 6 → VwO cd r nt ve m' i) : CE cd r nt z ve m' := by
  obtain ⟨e1, e2, e3, e4, e5, e6, e7, e8⟩ := hE
  refine ⟨e1, fun k hk => TxC_f (fun x j a b c => h.1 x j (by omega) (by omega) (by omega)) (e2 k hk), e3, fun k hk => ?_, hs, ?_, e7, hv⟩
  · rw [h.1 2 k (by omega) (by omega) (by omega)]; exact e4 k hk
  · rw [h.1 1 4 (by omega) (by omega) (by omega)]; exact e6
theorem VwO_s {cd : Nat → Cd} {r : Nat → Nat} {nt ve i : Nat} {m m' : Mem} (h2 : m'.2 (38 + 2 * i) 0 = m.2 (38 + 2 * i) 0) (h1 : m'.1 (38 + 2 * i) 1 = m.1 (38 + 2 * i) 1) (h3 : ∀ j, j < 24 → m'.1 (39 + 2 * i) j = m.1 (39 + 2 * i) j) (g : VwO cd r nt ve m i) : VwO cd r nt ve m' i := by
  unfold VwO
  rw [h2, h1]
  rcases g with g | ⟨ru, pl, nu, kc, ro, g1, g2, g3, g4, g5, g6, g7⟩
  · exact .inl g
  · exact .inr ⟨ru, pl, nu, kc, ro, g1, g2, g3, g4, g5, g6, fun w t hw ht hb => by rw [h3 _ (by omega)]; exact g7 w t hw ht hb⟩
theorem saG_w {cd : Nat → Cd} {r : Nat → Nat} {G : Nat → Nat → Nat} {p w t : Nat} (hw : w ≠ 0) : ∃ v, v ≤ 99 ∧ saG cd r G p w t = nI v := by
  unfold saG sayP
  rw [if_neg hw]
  exact ⟨_, clN_le _, rfl⟩
theorem says60 {cd : Nat → Cd} {r : Nat → Nat} {nt ve f p w t : Nat} {z : Nat → Nat} {m : Mem} {G : Nat → Nat → Nat} (hE : CE cd r nt z ve m) (hR : RF f m G) (hG : GO nt 1019 G) (hf : isFo f) (hp : p < 6) (hw : w < 3) (ht : t < 8) (hk : m.2 (38 + 2 * p) 0 = lN (keyN ve (G 0 2) (G 3 p) (G 2 p) (fK (cd (G 0 2)) * popc (G 4 p)) (fO (cd (G 0 2)) * G 0 1))) (hd : ∀ w t, w < 3 → t < 8 → bp (m.1 (38 + 2 * p) 1) (8 * w + t) = true → m.1 (39 + 2 * p) (8 * w + t) = saG cd r G p w t) :
    ∃ m', X5_says_60 nt z f (nI p) (nI w) (nI t) (tid (G 0 2)) (38 + 2 * p) m = some (saG cd r G p w t, m') ∧ CE cd r nt z ve m' ∧ FrX m m' := by
  have hE0 := hE
  obtain ⟨e1, e2, e3, e4, e5, e6, e7, e8⟩ := hE
  obtain ⟨g1, g2, g3, g4⟩ := hG
  obtain ⟨p1, p2, p3, p4, p5, p6⟩ := g4 p hp
  have tx := e2 (G 0 2) g3
  obtain ⟨t1, t2, t3, t4⟩ := tx
  have r1 := hR.1 1 (by decide)
  have s3 := hR.2 3 p (by decide) (by decide) hp
  have s2 := hR.2 2 p (by decide) (by decide) hp
  have s4 := hR.2 4 p (by decide) (by decide) hp
  have pc := popc_le (G 4 p) (by omega)
  have e8' : w * 8 + t = 8 * w + t := by omega
  have e9 : 38 + 2 * p + 1 = 39 + 2 * p := by omega
  have hff : f = 5 ∨ f = 16 ∨ f = 23 := hf
  unfold X5_says_60
  by_cases q : bp (m.1 (38 + 2 * p) 1) (8 * w + t) = false
  · obtain ⟨m3, a1, a2, a3, a4⟩ := farFrom_c (r := r) (a := G 3 p) (t := t) (m := pI (pI (pI m 36 0 (nI t)) 36 1 (nI (G 2 p))) 36 2 (nI (popc (G 4 p)))) (by omega) ht e3 (fun k hk => by rw [rIn (by omega), rIn (by omega), rIn (by omega)]; exact e4 k hk) (fun a ha hb u hu => by
      simp (disch := omega) only [rIn] at hb ⊢
      exact e5 a ha hb u hu)
    have rd : ∀ x j, ¬ (x = 1 ∧ j = 3) → x ≠ 3 → x ≠ 36 → m3.1 x j = m.1 x j := fun x j h1 h2 h3 => by
      rw [a4 x j h1 h2, rIn (by omega), rIn (by omega), rIn (by omega)]
    have n0 : m3.1 36 0 = nI t := by rw [a4 36 0 (by omega) (by omega), rIn (by omega), rIn (by omega), rIs]
    have n1 : m3.1 36 1 = nI (G 2 p) := by rw [a4 36 1 (by omega) (by omega), rIn (by omega), rIs]
    have n2 : m3.1 36 2 = nI (popc (G 4 p)) := by rw [a4 36 2 (by omega) (by omega), rIs]
    have u3 : m3.1 (f + 3) p = nI (G 3 p) := by rw [rd _ _ (by omega) (by omega) (by omega)]; exact s3
    have u1 : m3.1 f 1 = nI (G 0 1) := by rw [rd _ _ (by omega) (by omega) (by omega)]; exact r1
    have fin : ∀ h, h = (if G 3 p = t then 1 else 0) → ∃ m', X5_says_168 nt z f (nI w) (tid (G 0 2)) (38 + 2 * p) (nI (8 * w + t)) (nI h) (nI 4) (pI m3 36 3 (nI (fwD r (8 * G 3 p + t)))) = some (saG cd r G p w t, m') ∧ CE cd r nt z ve m' ∧ FrX m m' := by
      intro h hh
      have hM : ∀ x j, ¬ (x = 1 ∧ j = 3) → x ≠ 3 → x ≠ 36 → (pI (pI (pI m3 36 3 (nI (fwD r (8 * G 3 p + t)))) 36 4 (nI h)) 36 5 (nI (G 0 1))).1 x j = m.1 x j := fun x j h1 h2 h3 => by
        rw [rIn (by omega), rIn (by omega), rIn (by omega)]; exact rd x j h1 h2 h3
      obtain ⟨m6, b1, b2⟩ := value_c (nt := nt) (z := z) (t := tid (G 0 2)) (w := w) (nm := nmP r (G 3 p) (G 2 p) (popc (G 4 p)) (G 0 1) t) (m := pI (pI (pI m3 36 3 (nI (fwD r (8 * G 3 p + t)))) 36 4 (nI h)) 36 5 (nI (G 0 1))) (TxC_f (fun x j a b c => hM x j (by omega) (by omega) (by omega)) (e2 (G 0 2) g3)).1 (fun i hi => by
        rcases (show i = 0 ∨ i = 1 ∨ i = 2 ∨ i = 3 ∨ i = 4 ∨ i = 5 by omega) with rfl | rfl | rfl | rfl | rfl | rfl
        · rw [rIn (by omega), rIn (by omega), rIn (by omega)]; exact n0
        · rw [rIn (by omega), rIn (by omega), rIn (by omega)]; exact n1
        · rw [rIn (by omega), rIn (by omega), rIn (by omega)]; exact n2
        · rw [rIn (by omega), rIn (by omega), rIs]; rfl
        · rw [rIn (by omega), rIs, hh]; rfl
        · rw [rIs]; rfl) hw (t4 _ w hw)
      have hm6 : ∀ x j, ¬ (x = 1 ∧ j = 3) → x ≠ 3 → ¬ (36 ≤ x ∧ x ≤ 37) → m6.1 x j = m.1 x j := fun x j h1 h2 h3 => by
        rw [b2.1 x j (by omega)]; exact hM x j h1 h2 (by omega)
      have hm62 : m6.2 = m.2 := by rw [b2.2]; exact a3
      unfold X5_says_168 X5_says_222
      have hv : (if w = 0 then sayV (sel (cd (G 0 2)) w) (nmP r (G 3 p) (G 2 p) (popc (G 4 p)) (G 0 1) t) else nI (clN (sayV (sel (cd (G 0 2)) w) (nmP r (G 3 p) (G 2 p) (popc (G 4 p)) (G 0 1) t)))) = saG cd r G p w t := rfl
      have cl : ∀ v : Int32, v = saG cd r G p w t → CE cd r nt z ve (pI (pI m6 (39 + 2 * p) (8 * w + t) v) (38 + 2 * p) 1 ((m6.1 (38 + 2 * p) 1) ||| (nI 1 <<< (nI (8 * w + t) &&& nI 31)))) ∧ FrX m (pI (pI m6 (39 + 2 * p) (8 * w + t) v) (38 + 2 * p) 1 ((m6.1 (38 + 2 * p) 1) ||| (nI 1 <<< (nI (8 * w + t) &&& nI 31)))) := by
        intro v hvv
        have fr : FrX m (pI (pI m6 (39 + 2 * p) (8 * w + t) v) (38 + 2 * p) 1 ((m6.1 (38 + 2 * p) 1) ||| (nI 1 <<< (nI (8 * w + t) &&& nI 31)))) := by
          constructor
          · intro x j h1 h2 h3
            rw [rIn (by omega), rIn (by omega)]
            exact hm6 x j h1 h2 (by omega)
          · intro x j h1
            rw [rI2, rI2, hm62]
        refine ⟨CE_u hE0 fr ?_ ?_, fr⟩
        · intro a ha hb u hu
          simp (disch := omega) only [rIn] at hb ⊢
          rw [b2.1 _ _ (by decide), rIn (by omega), rIn (by omega), rIn (by omega)] at hb ⊢
          exact a2 a ha hb u hu
        · intro i hi
          by_cases ip : i = p
          · subst ip
            right
            refine ⟨G 0 2, G 3 i, G 2 i, popc (G 4 i), G 0 1, g3, by omega, by omega, by omega, by omega, by rw [rI2, rI2, hm62]; exact hk, fun w' t' hw' ht' hb => ?_⟩
            rw [rIs, hm6 _ _ (by omega) (by omega) (by omega), bp_or _ _ (by omega), bp_1 _ (by omega) _ (by omega)] at hb
            rw [rIn (by omega)]
            by_cases sm : 8 * w + t = 8 * w' + t'
            · have hw2 : w = w' := by omega
              have ht2 : t = t' := by omega
              subst hw2
              subst ht2
              rw [rIs]; exact hvv
            · rw [rIn (by omega), hm6 _ _ (by omega) (by omega) (by omega)]
              refine hd w' t' hw' ht' ?_
              simpa [sm] using hb
          · refine VwO_s ?_ ?_ ?_ (e8 i hi)
            · rw [rI2, rI2, hm62]
            · rw [rIn (by omega), rIn (by omega)]; exact hm6 _ _ (by omega) (by omega) (by omega)
            · intro j hj
              rw [rIn (by omega), rIn (by omega)]; exact hm6 _ _ (by omega) (by omega) (by omega)
      by_cases w0 : w = 0
      · have c2 := cl (sayV (sel (cd (G 0 2)) w) (nmP r (G 3 p) (G 2 p) (popc (G 4 p)) (G 0 1) t))
        rw [if_pos w0] at hv
        simp (disch := omega) only [leT, leF, ltT, ltF, eqT, eqF, inT, n_cl, nI_add, pk_mul, n_div, pk_sub, md8, Bool.true_eq_false, Bool.false_eq_true, L0, L1, L2, L3, L4, L5, L6, L7, L8, L9, L10, L20, L31, L40, L64, L99, L100, L255, L256, L999, L1000, L99999, ↓reduceIte, rIn, rIs, u1, b1, bi, e9]
        exact ⟨_, by rw [hv], c2 hv⟩
      · have c2 := cl (nI (clN (sayV (sel (cd (G 0 2)) w) (nmP r (G 3 p) (G 2 p) (popc (G 4 p)) (G 0 1) t))))
        rw [if_neg w0] at hv
        have hcl := cl_c (sayV (sel (cd (G 0 2)) w) (nmP r (G 3 p) (G 2 p) (popc (G 4 p)) (G 0 1) t))
        simp only [L0, L99] at hcl
        simp (disch := omega) only [leT, leF, ltT, ltF, eqT, eqF, inT, n_cl, nI_add, pk_mul, n_div, pk_sub, md8, Bool.true_eq_false, Bool.false_eq_true, L0, L1, L2, L3, L4, L5, L6, L7, L8, L9, L10, L20, L31, L40, L64, L99, L100, L255, L256, L999, L1000, L99999, ↓reduceIte, rIn, rIs, u1, b1, bi, e9, hcl]
        exact ⟨_, by rw [hv], c2 hv⟩
    by_cases hpt : G 3 p = t
    · have := fin 1 (by rw [if_pos hpt])
      simp (disch := omega) only [leT, leF, ltT, ltF, eqT, eqF, inT, n_cl, nI_add, pk_mul, n_div, pk_sub, md8, Bool.true_eq_false, Bool.false_eq_true, L0, L1, L2, L3, L4, L5, L6, L7, L8, L9, L10, L20, L31, L40, L64, L99, L100, L255, L256, L999, L1000, L99999, ↓reduceIte, e8', bp_f, q, rIn, s2, s4, s3, bitCount_c (show G 4 p < 256 by omega), bi, a1, u3]
      exact this
    · have := fin 0 (by rw [if_neg hpt])
      simp (disch := omega) only [leT, leF, ltT, ltF, eqT, eqF, inT, n_cl, nI_add, pk_mul, n_div, pk_sub, md8, Bool.true_eq_false, Bool.false_eq_true, L0, L1, L2, L3, L4, L5, L6, L7, L8, L9, L10, L20, L31, L40, L64, L99, L100, L255, L256, L999, L1000, L99999, ↓reduceIte, e8', bp_f, q, rIn, s2, s4, s3, bitCount_c (show G 4 p < 256 by omega), bi, a1, u3]
      exact this
  · have e := hd w t hw ht (by simpa using q)
    simp (disch := omega) only [leT, leF, ltT, ltF, eqT, eqF, inT, n_cl, nI_add, pk_mul, n_div, pk_sub, md8, Bool.true_eq_false, Bool.false_eq_true, L0, L1, L2, L3, L4, L5, L6, L7, L8, L9, L10, L20, L31, L40, L64, L99, L100, L255, L256, L999, L1000, L99999, ↓reduceIte, e8', bp_f, q, e9, e]
    exact ⟨m, rfl, hE0, FrX_r m⟩
