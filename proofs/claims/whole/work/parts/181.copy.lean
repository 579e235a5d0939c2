/-! calls: copy -/
theorem cpl_r {s i o j n : Nat} {up : Nat} {m : Mem} (hs : s < 4) (ho : o < 4) (hi : i + n ≤ 40) (hj : j + n ≤ 40) (hup : up = 0 ∧ (s ≠ o ∨ j ≤ i) ∨ up = 1 ∧ s = o ∧ i < j) : ∀ f k mk, k ≤ n → n - k < f → (∀ x p, mk.1 x p = if x = 78 ∧ (if up = 0 then 40 * o + j ≤ p ∧ p < 40 * o + j + k else 40 * o + j + (n - k) ≤ p ∧ p < 40 * o + j + n) then m.1 78 (40 * s + i + (p - (40 * o + j))) else m.1 x p) → mk.2 = m.2 → ∃ m', X10_copy_121 f (nI s) (nI i) (nI o) (nI j) (nI n) (nI up) (nI k) mk = some (nI n, m') ∧ (∀ x p, m'.1 x p = if x = 78 ∧ 40 * o + j ≤ p ∧ p < 40 * o + j + n then m.1 78 (40 * s + i + (p - (40 * o + j))) else m.1 x p) ∧ m'.2 = m.2 := by
  intro f
  induction f with
  | zero => intro k mk _ h; omega
  | succ f ih =>
    intro k mk hk hn hm h2
    rw [X10_copy_121]
    by_cases hkn : k = n
    · subst hkn
      simp (disch := omega) only [leT, leF, ltT, ltF, eqT, eqF, inT, n_cl, nI_add, pk_mul, n_div, pk_sub, md8, md2, or_true, true_or, or_false, false_or, Bool.true_eq_false, Bool.false_eq_true, L0, L1, L2, L3, L4, L5, L6, L7, L8, L9, L10, L20, L31, L40, L64, L99, L100, L255, L256, L999, L1000, L99999, ↓reduceIte, L11, L12, L13, L14, L15, L16, L30, L48, L160, K1, K2, K3, K4, K5, K7, K8, K9, K15, K17, K20, K27, K37, K48, K99, K255, inR, isPlace_r, isPlace_c, isSheet_r]
      refine ⟨mk, rfl, fun x p => ?_, h2⟩
      rw [hm]
      rcases hup with ⟨u, _⟩ | ⟨u, _⟩
      · rw [u]; simp only [↓reduceIte]
      · rw [u]; simp only [show ¬ (1 = 0) by decide, ↓reduceIte, Nat.sub_self, Nat.add_zero]
    · rcases hup with ⟨u, hu⟩ | ⟨u, hu⟩
      · have e : mk.1 78 (40 * s + i + k) = m.1 78 (40 * s + i + k) := by
          rw [hm, u]; simp only [↓reduceIte]
          rw [if_neg (by omega)]
        obtain ⟨m', a1, a2, a3⟩ := ih (k + 1) (pI mk 78 (40 * o + j + k) (m.1 78 (40 * s + i + k))) (by omega) (by omega) (fun x p => by
          rw [u]; simp only [↓reduceIte]
          by_cases y : x = 78 ∧ p = 40 * o + j + k
          · rw [y.1, y.2, rIs, if_pos (by omega), show 40 * o + j + k - (40 * o + j) = k by omega]
          · rw [rIn (by omega), hm, u]; simp only [↓reduceIte]
            by_cases q : x = 78 ∧ 40 * o + j ≤ p ∧ p < 40 * o + j + k
            · rw [if_pos q, if_pos (by omega)]
            · rw [if_neg q, if_neg (by omega)]) h2
        subst u
        simp (disch := omega) only [leT, leF, ltT, ltF, eqT, eqF, inT, n_cl, nI_add, pk_mul, n_div, pk_sub, md8, md2, or_true, true_or, or_false, false_or, Bool.true_eq_false, Bool.false_eq_true, L0, L1, L2, L3, L4, L5, L6, L7, L8, L9, L10, L20, L31, L40, L64, L99, L100, L255, L256, L999, L1000, L99999, ↓reduceIte, L11, L12, L13, L14, L15, L16, L30, L48, L160, K1, K2, K3, K4, K5, K7, K8, K9, K15, K17, K20, K27, K37, K48, K99, K255, inR, isPlace_r, isPlace_c, isSheet_r, X10_copy_145, e]
        exact ⟨m', a1, a2, a3⟩
      · have e : mk.1 78 (40 * s + i + (n - 1 - k)) = m.1 78 (40 * s + i + (n - 1 - k)) := by
          rw [hm, u]; simp only [show ¬ (1 = 0) by decide, ↓reduceIte]
          rw [if_neg (by omega)]
        obtain ⟨m', a1, a2, a3⟩ := ih (k + 1) (pI mk 78 (40 * o + j + (n - 1 - k)) (m.1 78 (40 * s + i + (n - 1 - k)))) (by omega) (by omega) (fun x p => by
          rw [u]; simp only [show ¬ (1 = 0) by decide, ↓reduceIte]
          by_cases y : x = 78 ∧ p = 40 * o + j + (n - 1 - k)
          · rw [y.1, y.2, rIs, if_pos (by omega), show 40 * o + j + (n - 1 - k) - (40 * o + j) = n - 1 - k by omega]
          · rw [rIn (by omega), hm, u]; simp only [show ¬ (1 = 0) by decide, ↓reduceIte]
            by_cases q : x = 78 ∧ 40 * o + j + (n - k) ≤ p ∧ p < 40 * o + j + n
            · rw [if_pos q, if_pos (by omega)]
            · rw [if_neg q, if_neg (by omega)]) h2
        subst u
        simp (disch := omega) only [leT, leF, ltT, ltF, eqT, eqF, inT, n_cl, nI_add, pk_mul, n_div, pk_sub, md8, md2, or_true, true_or, or_false, false_or, Bool.true_eq_false, Bool.false_eq_true, L0, L1, L2, L3, L4, L5, L6, L7, L8, L9, L10, L20, L31, L40, L64, L99, L100, L255, L256, L999, L1000, L99999, ↓reduceIte, L11, L12, L13, L14, L15, L16, L30, L48, L160, K1, K2, K3, K4, K5, K7, K8, K9, K15, K17, K20, K27, K37, K48, K99, K255, inR, isPlace_r, isPlace_c, isSheet_r, X10_copy_145, e]
        exact ⟨m', a1, a2, a3⟩
theorem sub_i {sz : Nat} {y : Int32} (hz : sz ≤ 40) (hy : 0 ≤ y.toInt) : (nI sz - y).toInt = (sz : Int) - y.toInt := by
  have h1 := Int32.toInt_lt y
  rw [Int32.toInt_sub, nI_toInt (by omega), Int.bmod_eq_of_le (by omega) (by omega)]
theorem sub_lt {sz : Nat} {x y : Int32} (hz : sz ≤ 40) (hy : 0 ≤ y.toInt) : (nI sz - y < x) = ((sz : Int) - y.toInt < x.toInt) := propext (by
  rw [Int32.lt_iff_toInt_lt, sub_i hz hy])
theorem le_sub {sz : Nat} {x y : Int32} (hz : sz ≤ 40) (hy : 0 ≤ y.toInt) : (x ≤ nI sz - y) = (x.toInt ≤ (sz : Int) - y.toInt) := propext (by
  rw [Int32.le_iff_toInt_le, sub_i hz hy])
theorem rCp (m : Mem) (a c sp dp n x j : Nat) : (pC m a c sp dp n).1 x j = if x = c ∧ dp ≤ j ∧ j < dp + n then m.1 a (sp + (j - dp)) else m.1 x j := by
  unfold pC va_up va_cpy
  by_cases h : x = c
  · subst h
    by_cases q : dp ≤ j ∧ j < dp + n
    · simp [q]
    · simp [q]
  · simp [h]
section
variable {c nt : Nat} {z : Nat → Nat} {m : Mem} {cd : Nat → Cd} {r rk : Nat → Nat} {G H : Fo} {tp : Nat → Nat} {n ve : Nat}
theorem copy_k {s o so sz sz2 i j k : Nat} (hv : ve ≤ c) (hE : CE cd r nt z ve m) (hW : IW cd r rk G H tp n nt m) (hs : s < 4) (ho : o < 4) (t1 : SHt m s so sz) (t2 : SHt m o so sz2) (hi : i + k ≤ sz) (hj : j + k ≤ sz2) : ∃ (r : Int32) (m1 m2 : Mem), X9_copy (nI s) (nI i) (nI o) (nI j) (nI k) m = some (r, m1) ∧ X10_copy (nI s) (nI i) (nI o) (nI j) (nI k) m1 = some (r, m2) ∧ Iv (c + 1) nt z m2 := by
  have w8 := hW.2.2.2.2.2.2.2
  obtain ⟨g1, g2, g3, g4, g5, g6, g7, g8⟩ := t1
  obtain ⟨f1, f2, f3, f4, f5, f6, f7, f8⟩ := t2
  have e1 : (nI i).toInt = i := nI_toInt (by omega)
  have e2 : (nI j).toInt = j := nI_toInt (by omega)
  have e3 : (nI k).toInt = k := nI_toInt (by omega)
  have h1 := has_c (x := nI i) (y := nI k) g4 g2
  have h2 := has_c (x := nI j) (y := nI k) f4 f2
  rw [show decide (0 ≤ (nI i).toInt ∧ 0 ≤ (nI k).toInt ∧ (nI i).toInt + (nI k).toInt ≤ sz) = true by rw [e1, e3]; simp; omega] at h1
  rw [show decide (0 ≤ (nI j).toInt ∧ 0 ≤ (nI k).toInt ∧ (nI j).toInt + (nI k).toInt ≤ sz2) = true by rw [e2, e3]; simp; omega] at h2
  have so1 := fun m' => shOf_c hs m'
  have so2 := fun m' => shOf_c ho m'
  have hc1 : X9_copy (nI s) (nI i) (nI o) (nI j) (nI k) m = some (nI k, pC m (55 + 2 * s + 1) (55 + 2 * o + 1) i j k) := by
    unfold X9_copy
    simp (disch := omega) only [leT, leF, ltT, ltF, eqT, eqF, inT, n_cl, nI_add, pk_mul, n_div, pk_sub, md8, md2, or_true, true_or, or_false, false_or, Bool.true_eq_false, Bool.false_eq_true, L0, L1, L2, L3, L4, L5, L6, L7, L8, L9, L10, L20, L31, L40, L64, L99, L100, L255, L256, L999, L1000, L99999, ↓reduceIte, L11, L12, L13, L14, L15, L16, L30, L48, L160, K1, K2, K3, K4, K5, K7, K8, K9, K15, K17, K20, K27, K37, K48, K99, K255, inR, isPlace_r, isPlace_c, isSheet_r, so1, so2, bq, oq, bi, here_c (show so < 3 by omega) g3, here_c (show so < 3 by omega) f3, g3, f3, h1, h2, b01]
    rw [if_pos ⟨fun q => q, fun q => q, fun q => q, by omega, by omega⟩]
  have rd : ∀ x p, ¬ (55 ≤ x ∧ x ≤ 62) → (pC m (55 + 2 * s + 1) (55 + 2 * o + 1) i j k).1 x p = m.1 x p := fun x p h => by rw [rCp, if_neg (by omega)]
  obtain ⟨up, hup⟩ : ∃ up : Nat, up = 0 ∧ (s ≠ o ∨ j ≤ i) ∨ up = 1 ∧ s = o ∧ i < j := by
    by_cases q : s = o ∧ i < j
    · exact ⟨1, .inr ⟨rfl, q⟩⟩
    · exact ⟨0, .inl ⟨rfl, by omega⟩⟩
  obtain ⟨m2, y1, y2, y3⟩ := cpl_r (m := pC m (55 + 2 * s + 1) (55 + 2 * o + 1) i j k) (n := k) hs ho (by omega) (by omega) hup 10000 0 _ (Nat.zero_le _) (by omega) (fun x p => by
    rcases hup with ⟨u, _⟩ | ⟨u, _⟩
    · rw [u]; simp only [↓reduceIte]; rw [if_neg (by omega)]
    · rw [u]; simp only [show ¬ (1 = 0) by decide, ↓reduceIte]; rw [if_neg (by omega)]) rfl
  have F : ∀ x p, ¬ (55 ≤ x ∧ x ≤ 62) → x ≠ 78 → m2.1 x p = m.1 x p := fun x p h1 h2 => by rw [y2, if_neg (by omega), rd x p h1]
  refine ⟨nI k, _, m2, hc1, ?_, cd, r, rk, G, H, tp, n, ve, by omega, CE_g hE (fun x p h => F x p (by omega) (by omega)) (fun x p _ _ => by rw [y3]; rfl), IW_sh hW (fun x p h1 h2 => F x p h1 (by omega)) (fun i' hi' => ?_)⟩
  · unfold X10_copy X10_copy_115 X10_copy_116
    have q5 : (pC m (55 + 2 * s + 1) (55 + 2 * o + 1) i j k).1 75 s = nI 1 := by rw [rd _ _ (by omega)]; exact g5
    have q5' : (pC m (55 + 2 * s + 1) (55 + 2 * o + 1) i j k).1 75 o = nI 1 := by rw [rd _ _ (by omega)]; exact f5
    have q6 : (pC m (55 + 2 * s + 1) (55 + 2 * o + 1) i j k).1 76 s = nI so := by rw [rd _ _ (by omega)]; exact g6
    have q6' : (pC m (55 + 2 * s + 1) (55 + 2 * o + 1) i j k).1 76 o = nI so := by rw [rd _ _ (by omega)]; exact f6
    have q7 : (pC m (55 + 2 * s + 1) (55 + 2 * o + 1) i j k).1 77 s = nI sz := by rw [rd _ _ (by omega)]; exact g7
    have q7' : (pC m (55 + 2 * s + 1) (55 + 2 * o + 1) i j k).1 77 o = nI sz2 := by rw [rd _ _ (by omega)]; exact f7
    rcases hup with ⟨u, hu⟩ | ⟨u, hu1, hu2⟩
    · rw [u] at y1
      by_cases hso : s = o
      · simp (disch := omega) only [leT, leF, ltT, ltF, eqT, eqF, inT, n_cl, nI_add, pk_mul, n_div, pk_sub, md8, md2, or_true, true_or, or_false, false_or, Bool.true_eq_false, Bool.false_eq_true, L0, L1, L2, L3, L4, L5, L6, L7, L8, L9, L10, L20, L31, L40, L64, L99, L100, L255, L256, L999, L1000, L99999, ↓reduceIte, L11, L12, L13, L14, L15, L16, L30, L48, L160, K1, K2, K3, K4, K5, K7, K8, K9, K15, K17, K20, K27, K37, K48, K99, K255, inR, isPlace_r, isPlace_c, isSheet_r, bi, q5, q5', q6, q6', q7, q7', y1]
      · simp (disch := omega) only [leT, leF, ltT, ltF, eqT, eqF, inT, n_cl, nI_add, pk_mul, n_div, pk_sub, md8, md2, or_true, true_or, or_false, false_or, Bool.true_eq_false, Bool.false_eq_true, L0, L1, L2, L3, L4, L5, L6, L7, L8, L9, L10, L20, L31, L40, L64, L99, L100, L255, L256, L999, L1000, L99999, ↓reduceIte, L11, L12, L13, L14, L15, L16, L30, L48, L160, K1, K2, K3, K4, K5, K7, K8, K9, K15, K17, K20, K27, K37, K48, K99, K255, inR, isPlace_r, isPlace_c, isSheet_r, bi, q5, q5', q6, q6', q7, q7', y1]
    · rw [u] at y1
      simp (disch := omega) only [leT, leF, ltT, ltF, eqT, eqF, inT, n_cl, nI_add, pk_mul, n_div, pk_sub, md8, md2, or_true, true_or, or_false, false_or, Bool.true_eq_false, Bool.false_eq_true, L0, L1, L2, L3, L4, L5, L6, L7, L8, L9, L10, L20, L31, L40, L64, L99, L100, L255, L256, L999, L1000, L99999, ↓reduceIte, L11, L12, L13, L14, L15, L16, L30, L48, L160, K1, K2, K3, K4, K5, K7, K8, K9, K15, K17, K20, K27, K37, K48, K99, K255, inR, isPlace_r, isPlace_c, isSheet_r, bi, q5, q5', q6, q6', q7, q7', y1]
  · by_cases qi : i' = o
    · subst qi
      refine .inr ⟨so, sz2, f1, f2, ?_, ?_, ?_, ?_, ?_, fun k' hk' => ?_⟩
      · rw [y2, if_neg (by omega), rCp, if_neg (by omega)]; exact f3
      · rw [y2, if_neg (by omega), rCp, if_neg (by omega)]; exact f4
      · rw [F _ _ (by omega) (by omega)]; exact f5
      · rw [F _ _ (by omega) (by omega)]; exact f6
      · rw [F _ _ (by omega) (by omega)]; exact f7
      · rw [y2, if_neg (by omega), rCp, y2]
        by_cases q : j ≤ k' ∧ k' < j + k
        · rw [if_pos (by omega), if_pos (by omega), rd 78 _ (by omega), show 55 + 2 * s + 1 = 56 + 2 * s by omega, g8 (i + (k' - j)) (by omega), show 40 * s + i + (40 * i' + k' - (40 * i' + j)) = 40 * s + (i + (k' - j)) by omega]
        · rw [if_neg (by omega), if_neg (by omega), rd 78 _ (by omega)]; exact f8 k' hk'
    · refine SHE_s (fun x p h => ?_) (w8 i' hi')
      rw [y2, if_neg (by omega), rCp, if_neg (by omega)]
theorem copy_x {s o so sz sz2 : Nat} {a2 a4 a5 : Int32} (hv : ve ≤ c) (hE : CE cd r nt z ve m) (hW : IW cd r rk G H tp n nt m) (hs : s < 4) (ho : o < 4) (t1 : SHt m s so sz) (t2 : SHt m o so sz2) (hx : ¬ (0 ≤ a2.toInt ∧ 0 ≤ a5.toInt ∧ a2.toInt + a5.toInt ≤ sz) ∨ ¬ (0 ≤ a4.toInt ∧ 0 ≤ a5.toInt ∧ a4.toInt + a5.toInt ≤ sz2)) : ∃ (r : Int32) (m1 m2 : Mem), X9_copy (nI s) a2 (nI o) a4 a5 m = some (r, m1) ∧ X10_copy (nI s) a2 (nI o) a4 a5 m1 = some (r, m2) ∧ Iv (c + 1) nt z m2 := by
  obtain ⟨g1, g2, g3, g4, g5, g6, g7, g8⟩ := t1
  obtain ⟨f1, f2, f3, f4, f5, f6, f7, f8⟩ := t2
  have h1 := has_c (x := a2) (y := a5) g4 g2
  have h2 := has_c (x := a4) (y := a5) f4 f2
  have so1 := fun m' => shOf_c hs m'
  have so2 := fun m' => shOf_c ho m'
  refine ⟨-nI 12, m, m, ?_, ?_, Iv_0 hv hE hW⟩
  · unfold X9_copy
    by_cases q : 0 ≤ a2.toInt ∧ 0 ≤ a5.toInt ∧ a2.toInt + a5.toInt ≤ sz
    · rw [decide_eq_true q] at h1
      rw [decide_eq_false (hx.resolve_left (fun y => y q))] at h2
      simp (disch := omega) only [leT, leF, ltT, ltF, eqT, eqF, inT, n_cl, nI_add, pk_mul, n_div, pk_sub, md8, md2, or_true, true_or, or_false, false_or, Bool.true_eq_false, Bool.false_eq_true, L0, L1, L2, L3, L4, L5, L6, L7, L8, L9, L10, L20, L31, L40, L64, L99, L100, L255, L256, L999, L1000, L99999, ↓reduceIte, L11, L12, L13, L14, L15, L16, L30, L48, L160, K1, K2, K3, K4, K5, K7, K8, K9, K15, K17, K20, K27, K37, K48, K99, K255, inR, isPlace_r, isPlace_c, isSheet_r, so1, so2, bq, oq, bi, here_c (show so < 3 by omega) g3, here_c (show so < 3 by omega) f3, g3, f3, h1, h2, b01]
    · rw [decide_eq_false q] at h1
      simp (disch := omega) only [leT, leF, ltT, ltF, eqT, eqF, inT, n_cl, nI_add, pk_mul, n_div, pk_sub, md8, md2, or_true, true_or, or_false, false_or, Bool.true_eq_false, Bool.false_eq_true, L0, L1, L2, L3, L4, L5, L6, L7, L8, L9, L10, L20, L31, L40, L64, L99, L100, L255, L256, L999, L1000, L99999, ↓reduceIte, L11, L12, L13, L14, L15, L16, L30, L48, L160, K1, K2, K3, K4, K5, K7, K8, K9, K15, K17, K20, K27, K37, K48, K99, K255, inR, isPlace_r, isPlace_c, isSheet_r, so1, so2, bq, oq, bi, here_c (show so < 3 by omega) g3, here_c (show so < 3 by omega) f3, g3, f3, h1, b01]
  · unfold X10_copy
    by_cases p5 : a5.toInt < 0
    · simp (disch := omega) only [leT, leF, ltT, ltF, eqT, eqF, inT, n_cl, nI_add, pk_mul, n_div, pk_sub, md8, md2, or_true, true_or, or_false, false_or, Bool.true_eq_false, Bool.false_eq_true, L0, L1, L2, L3, L4, L5, L6, L7, L8, L9, L10, L20, L31, L40, L64, L99, L100, L255, L256, L999, L1000, L99999, ↓reduceIte, L11, L12, L13, L14, L15, L16, L30, L48, L160, K1, K2, K3, K4, K5, K7, K8, K9, K15, K17, K20, K27, K37, K48, K99, K255, inR, isPlace_r, isPlace_c, isSheet_r, bi, g5, f5, g6, f6, lt0_i, p5]
    · by_cases p2 : a2.toInt < 0
      · simp (disch := omega) only [leT, leF, ltT, ltF, eqT, eqF, inT, n_cl, nI_add, pk_mul, n_div, pk_sub, md8, md2, or_true, true_or, or_false, false_or, Bool.true_eq_false, Bool.false_eq_true, L0, L1, L2, L3, L4, L5, L6, L7, L8, L9, L10, L20, L31, L40, L64, L99, L100, L255, L256, L999, L1000, L99999, ↓reduceIte, L11, L12, L13, L14, L15, L16, L30, L48, L160, K1, K2, K3, K4, K5, K7, K8, K9, K15, K17, K20, K27, K37, K48, K99, K255, inR, isPlace_r, isPlace_c, isSheet_r, bi, g5, f5, g6, f6, lt0_i, p5, p2]
      · by_cases p4 : a4.toInt < 0
        · simp (disch := omega) only [leT, leF, ltT, ltF, eqT, eqF, inT, n_cl, nI_add, pk_mul, n_div, pk_sub, md8, md2, or_true, true_or, or_false, false_or, Bool.true_eq_false, Bool.false_eq_true, L0, L1, L2, L3, L4, L5, L6, L7, L8, L9, L10, L20, L31, L40, L64, L99, L100, L255, L256, L999, L1000, L99999, ↓reduceIte, L11, L12, L13, L14, L15, L16, L30, L48, L160, K1, K2, K3, K4, K5, K7, K8, K9, K15, K17, K20, K27, K37, K48, K99, K255, inR, isPlace_r, isPlace_c, isSheet_r, bi, g5, f5, g6, f6, lt0_i, p5, p2, p4]
        · have l1 := sub_lt (sz := sz) (x := a2) (y := a5) g2 (by omega)
          have l2 := le_sub (sz := sz2) (x := a4) (y := a5) f2 (by omega)
          by_cases q1 : (sz : Int) - a5.toInt < a2.toInt
          · simp (disch := omega) only [leT, leF, ltT, ltF, eqT, eqF, inT, n_cl, nI_add, pk_mul, n_div, pk_sub, md8, md2, or_true, true_or, or_false, false_or, Bool.true_eq_false, Bool.false_eq_true, L0, L1, L2, L3, L4, L5, L6, L7, L8, L9, L10, L20, L31, L40, L64, L99, L100, L255, L256, L999, L1000, L99999, ↓reduceIte, L11, L12, L13, L14, L15, L16, L30, L48, L160, K1, K2, K3, K4, K5, K7, K8, K9, K15, K17, K20, K27, K37, K48, K99, K255, inR, isPlace_r, isPlace_c, isSheet_r, bi, g5, f5, g6, f6, g7, lt0_i, p5, p2, p4, l1, q1]
          · have q2 : ¬ a4.toInt ≤ (sz2 : Int) - a5.toInt := by omega
            simp (disch := omega) only [leT, leF, ltT, ltF, eqT, eqF, inT, n_cl, nI_add, pk_mul, n_div, pk_sub, md8, md2, or_true, true_or, or_false, false_or, Bool.true_eq_false, Bool.false_eq_true, L0, L1, L2, L3, L4, L5, L6, L7, L8, L9, L10, L20, L31, L40, L64, L99, L100, L255, L256, L999, L1000, L99999, ↓reduceIte, L11, L12, L13, L14, L15, L16, L30, L48, L160, K1, K2, K3, K4, K5, K7, K8, K9, K15, K17, K20, K27, K37, K48, K99, K255, inR, isPlace_r, isPlace_c, isSheet_r, bi, g5, f5, g6, f6, g7, f7, lt0_i, p5, p2, p4, l1, q1, l2, q2]
end
theorem o_copy : ob_copy Iv := by
  rintro c nt z m a1 a2 a3 a4 a5 hc ⟨cd, r, rk, G, H, tp, n, ve, hv, hE, hW⟩
  have bad : Iv (c + 1) nt z m := Iv_0 hv hE hW
  have w8 := hW.2.2.2.2.2.2.2
  rcases dich a1 4 (by decide) with ⟨s, hs, rfl⟩ | d
  · have so1 := fun m' => shOf_c hs m'
    rcases dich a3 4 (by decide) with ⟨o, ho, rfl⟩ | d
    · have so2 := fun m' => shOf_c ho m'
      rcases w8 s hs with ⟨u1, u2⟩ | ⟨so, sz, t1⟩
      · refine ⟨-nI 11, m, m, ?_, ?_, bad⟩
        · unfold X9_copy
          simp (disch := omega) only [leT, leF, ltT, ltF, eqT, eqF, inT, n_cl, nI_add, pk_mul, n_div, pk_sub, md8, md2, or_true, true_or, or_false, false_or, Bool.true_eq_false, Bool.false_eq_true, L0, L1, L2, L3, L4, L5, L6, L7, L8, L9, L10, L20, L31, L40, L64, L99, L100, L255, L256, L999, L1000, L99999, ↓reduceIte, L11, L12, L13, L14, L15, L16, L30, L48, L160, K1, K2, K3, K4, K5, K7, K8, K9, K15, K17, K20, K27, K37, K48, K99, K255, inR, isPlace_r, isPlace_c, isSheet_r, so1, so2, bq, oq, bi, miss_c u1]
        · unfold X10_copy
          simp (disch := omega) only [leT, leF, ltT, ltF, eqT, eqF, inT, n_cl, nI_add, pk_mul, n_div, pk_sub, md8, md2, or_true, true_or, or_false, false_or, Bool.true_eq_false, Bool.false_eq_true, L0, L1, L2, L3, L4, L5, L6, L7, L8, L9, L10, L20, L31, L40, L64, L99, L100, L255, L256, L999, L1000, L99999, ↓reduceIte, L11, L12, L13, L14, L15, L16, L30, L48, L160, K1, K2, K3, K4, K5, K7, K8, K9, K15, K17, K20, K27, K37, K48, K99, K255, inR, isPlace_r, isPlace_c, isSheet_r, bi, u2]
      · have t10 := t1
        obtain ⟨g1, g2, g3, g4, g5, g6, g7, g8⟩ := t1
        rcases w8 o ho with ⟨u1, u2⟩ | ⟨so', sz2, t2⟩
        · refine ⟨-nI 11, m, m, ?_, ?_, bad⟩
          · unfold X9_copy
            simp (disch := omega) only [leT, leF, ltT, ltF, eqT, eqF, inT, n_cl, nI_add, pk_mul, n_div, pk_sub, md8, md2, or_true, true_or, or_false, false_or, Bool.true_eq_false, Bool.false_eq_true, L0, L1, L2, L3, L4, L5, L6, L7, L8, L9, L10, L20, L31, L40, L64, L99, L100, L255, L256, L999, L1000, L99999, ↓reduceIte, L11, L12, L13, L14, L15, L16, L30, L48, L160, K1, K2, K3, K4, K5, K7, K8, K9, K15, K17, K20, K27, K37, K48, K99, K255, inR, isPlace_r, isPlace_c, isSheet_r, so1, so2, bq, oq, bi, here_c (show so < 3 by omega) g3, miss_c u1]
          · unfold X10_copy
            simp (disch := omega) only [leT, leF, ltT, ltF, eqT, eqF, inT, n_cl, nI_add, pk_mul, n_div, pk_sub, md8, md2, or_true, true_or, or_false, false_or, Bool.true_eq_false, Bool.false_eq_true, L0, L1, L2, L3, L4, L5, L6, L7, L8, L9, L10, L20, L31, L40, L64, L99, L100, L255, L256, L999, L1000, L99999, ↓reduceIte, L11, L12, L13, L14, L15, L16, L30, L48, L160, K1, K2, K3, K4, K5, K7, K8, K9, K15, K17, K20, K27, K37, K48, K99, K255, inR, isPlace_r, isPlace_c, isSheet_r, bi, g5, u2]
        · have t20 := t2
          obtain ⟨f1, f2, f3, f4, f5, f6, f7, f8⟩ := t2
          by_cases hso : so = so'
          · subst hso
            by_cases q1 : 0 ≤ a2.toInt ∧ 0 ≤ a5.toInt ∧ a2.toInt + a5.toInt ≤ sz
            · by_cases q2 : 0 ≤ a4.toInt ∧ 0 ≤ a5.toInt ∧ a4.toInt + a5.toInt ≤ sz2
              · obtain ⟨i, i1, i2, rfl⟩ := toI q1.1
                obtain ⟨j, j1, j2, rfl⟩ := toI q2.1
                obtain ⟨k, k1, k2, rfl⟩ := toI q1.2.1
                exact copy_k hv hE hW hs ho t10 t20 (by omega) (by omega)
              · exact copy_x hv hE hW hs ho t10 t20 (.inr q2)
            · exact copy_x hv hE hW hs ho t10 t20 (.inl q1)
          · refine ⟨-nI 13, m, m, ?_, ?_, bad⟩
            · unfold X9_copy
              simp (disch := omega) only [leT, leF, ltT, ltF, eqT, eqF, inT, n_cl, nI_add, pk_mul, n_div, pk_sub, md8, md2, or_true, true_or, or_false, false_or, Bool.true_eq_false, Bool.false_eq_true, L0, L1, L2, L3, L4, L5, L6, L7, L8, L9, L10, L20, L31, L40, L64, L99, L100, L255, L256, L999, L1000, L99999, ↓reduceIte, L11, L12, L13, L14, L15, L16, L30, L48, L160, K1, K2, K3, K4, K5, K7, K8, K9, K15, K17, K20, K27, K37, K48, K99, K255, inR, isPlace_r, isPlace_c, isSheet_r, so1, so2, bq, oq, bi, here_c (show so < 3 by omega) g3, here_c (show so' < 3 by omega) f3, g3, f3]
            · unfold X10_copy
              simp (disch := omega) only [leT, leF, ltT, ltF, eqT, eqF, inT, n_cl, nI_add, pk_mul, n_div, pk_sub, md8, md2, or_true, true_or, or_false, false_or, Bool.true_eq_false, Bool.false_eq_true, L0, L1, L2, L3, L4, L5, L6, L7, L8, L9, L10, L20, L31, L40, L64, L99, L100, L255, L256, L999, L1000, L99999, ↓reduceIte, L11, L12, L13, L14, L15, L16, L30, L48, L160, K1, K2, K3, K4, K5, K7, K8, K9, K15, K17, K20, K27, K37, K48, K99, K255, inR, isPlace_r, isPlace_c, isSheet_r, bi, g5, f5, g6, f6]
    · refine ⟨-nI 2, m, m, ?_, ?_, bad⟩
      · unfold X9_copy
        simp (disch := omega) only [leT, leF, ltT, ltF, eqT, eqF, inT, n_cl, nI_add, pk_mul, n_div, pk_sub, md8, md2, or_true, true_or, or_false, false_or, Bool.true_eq_false, Bool.false_eq_true, L0, L1, L2, L3, L4, L5, L6, L7, L8, L9, L10, L20, L31, L40, L64, L99, L100, L255, L256, L999, L1000, L99999, ↓reduceIte, L11, L12, L13, L14, L15, L16, L30, L48, L160, K1, K2, K3, K4, K5, K7, K8, K9, K15, K17, K20, K27, K37, K48, K99, K255, inR, isPlace_r, isPlace_c, isSheet_r, so1, shOf_n d, bq, oq]
      · unfold X10_copy
        simp (disch := omega) only [leT, leF, ltT, ltF, eqT, eqF, inT, n_cl, nI_add, pk_mul, n_div, pk_sub, md8, md2, or_true, true_or, or_false, false_or, Bool.true_eq_false, Bool.false_eq_true, L0, L1, L2, L3, L4, L5, L6, L7, L8, L9, L10, L20, L31, L40, L64, L99, L100, L255, L256, L999, L1000, L99999, ↓reduceIte, L11, L12, L13, L14, L15, L16, L30, L48, L160, K1, K2, K3, K4, K5, K7, K8, K9, K15, K17, K20, K27, K37, K48, K99, K255, inR, isPlace_r, isPlace_c, isSheet_r, bi, d.1]
  · refine ⟨-nI 2, m, m, ?_, ?_, bad⟩
    · unfold X9_copy
      rcases dich a3 4 (by decide) with ⟨o, ho, rfl⟩ | d'
      · simp (disch := omega) only [leT, leF, ltT, ltF, eqT, eqF, inT, n_cl, nI_add, pk_mul, n_div, pk_sub, md8, md2, or_true, true_or, or_false, false_or, Bool.true_eq_false, Bool.false_eq_true, L0, L1, L2, L3, L4, L5, L6, L7, L8, L9, L10, L20, L31, L40, L64, L99, L100, L255, L256, L999, L1000, L99999, ↓reduceIte, L11, L12, L13, L14, L15, L16, L30, L48, L160, K1, K2, K3, K4, K5, K7, K8, K9, K15, K17, K20, K27, K37, K48, K99, K255, inR, isPlace_r, isPlace_c, isSheet_r, shOf_n d, shOf_c ho, bq, oq]
      · simp (disch := omega) only [leT, leF, ltT, ltF, eqT, eqF, inT, n_cl, nI_add, pk_mul, n_div, pk_sub, md8, md2, or_true, true_or, or_false, false_or, Bool.true_eq_false, Bool.false_eq_true, L0, L1, L2, L3, L4, L5, L6, L7, L8, L9, L10, L20, L31, L40, L64, L99, L100, L255, L256, L999, L1000, L99999, ↓reduceIte, L11, L12, L13, L14, L15, L16, L30, L48, L160, K1, K2, K3, K4, K5, K7, K8, K9, K15, K17, K20, K27, K37, K48, K99, K255, inR, isPlace_r, isPlace_c, isSheet_r, shOf_n d, shOf_n d', bq, oq]
    · unfold X10_copy
      simp (disch := omega) only [leT, leF, ltT, ltF, eqT, eqF, inT, n_cl, nI_add, pk_mul, n_div, pk_sub, md8, md2, or_true, true_or, or_false, false_or, Bool.true_eq_false, Bool.false_eq_true, L0, L1, L2, L3, L4, L5, L6, L7, L8, L9, L10, L20, L31, L40, L64, L99, L100, L255, L256, L999, L1000, L99999, ↓reduceIte, L11, L12, L13, L14, L15, L16, L30, L48, L160, K1, K2, K3, K4, K5, K7, K8, K9, K15, K17, K20, K27, K37, K48, K99, K255, inR, isPlace_r, isPlace_c, isSheet_r, bi, d.1]
