/-! calls: drawn, chance -/
def nxD (v : Int32) : Int32 := (v * (1103515245 : Int32)) + (12345 : Int32)
def dwE (v : Int32) : Int32 := ((v.toUInt32 >>> ((9 : Int32).toUInt32 &&& Int32.toUInt32 31)).toInt32) - ((v.toUInt32 >>> ((9 : Int32).toUInt32 &&& Int32.toUInt32 31)).toInt32) / (256 : Int32) * (256 : Int32)
theorem dwE_n (v : Int32) : ∃ n, n ≤ 255 ∧ dwE v = nI n := by
  have h := pk_ushr v 9 9 rfl
  have hl := v.toBitVec.isLt
  have e : (v.toUInt32 >>> ((9 : Int32).toUInt32 &&& Int32.toUInt32 31)).toInt32 = nI (v.toBitVec.toNat / 2 ^ 9) := by
    apply Int32.toBitVec_inj.mp
    apply BitVec.eq_of_toNat_eq
    rw [h, pk_tn (by omega)]
  unfold dwE
  rw [e, show (256 : Int32) = nI 256 from rfl, pk_rem (by omega) (by decide) (by decide)]
  exact ⟨_, by omega, rfl⟩
def dwN (v : Int32) : Nat := (dwE v).toNatClampNeg
theorem dwN_e (v : Int32) : dwE v = nI (dwN v) ∧ dwN v ≤ 255 := by
  obtain ⟨n, h1, h2⟩ := dwE_n v
  unfold dwN
  rw [h2, n_cl (by omega)]
  exact ⟨rfl, h1⟩
def dwG (G : Fo) (v : Int32) : Nat → Fo × Int32
  | 0 => (G, v)
  | p + 1 => (gU (dwG G v p).1 4 p (dwN (nxD (dwG G v p).2)), nxD (dwG G v p).2)
def dwV (cd : Nat → Cd) (r : Nat → Nat) (G : Fo) (v : Int32) : Nat := wyS (rdA cd r 9 (dwG G v (G 0 0)).1 5).2 9 (G 0 0)
section
variable {c nt ve f R bu n w k p t : Nat} {z : Nat → Nat} {m ma mb : Mem} {G G' H : Fo} {cd : Nat → Cd} {r rk : Nat → Nat} {tp : Nat → Nat} {v : Int32}
theorem dwG_i (hG : GO nt R G) : ∀ p, GO nt R (dwG G v p).1 ∧ (dwG G v p).1 0 0 = G 0 0 := by
  intro p
  induction p with
  | zero => exact ⟨hG, rfl⟩
  | succ p ih =>
    refine ⟨GO_u (show dwN (nxD (dwG G v p).2) ≤ 255 from (dwN_e _).2) ih.1, ?_⟩
    rw [dwG]
    show gU (dwG G v p).1 4 p (dwN (nxD (dwG G v p).2)) 0 0 = _
    rw [gU_n (by omega)]; exact ih.2
theorem dwV_le (hG : GO nt R G) : dwV cd r G v ≤ 48 := by
  obtain ⟨i1, i2⟩ := dwG_i (v := v) hG (G 0 0)
  obtain ⟨j1, j2, j3, j4⟩ := rdA_i (cd := cd) (r := r) (bu := 9) i1 5
  have := wyS_le (bu := 9) j1 (G 0 0) hG.1
  have := hG.1
  unfold dwV; omega
theorem dwc_s {N : Nat} (h : m.1 23 0 = nI N) (hN : N ≤ 6) (hp : p < N) (v2 : Int32) : X9_drawn_15 nt z (n + 1) v2 (nI p) m = X9_drawn_15 nt z n (nxD v2) (nI (p + 1)) (pI m 27 p (dwE (nxD v2))) := by
  rw [X9_drawn_15, h, if_neg (nI_ge hp (by omega)), if_pos ((n_inn (by omega)).mpr (by omega)), n_cl (by omega), show nI p + (1 : Int32) = nI (p + 1) from nI_1 p]
  rfl
theorem dwr_s {N : Nat} (h : m.1 63 11 = nI N) (hN : N ≤ 6) (hp : p < N) (v2 : Int32) : X10_knownDrawn_8 (n + 1) v2 (nI p) m = X10_knownDrawn_8 n (nxD v2) (nI (p + 1)) (pI m 69 (5 * p + 2) (dwE (nxD v2))) := by
  have e : (5 : Int32) * nI p + (2 : Int32) = nI (5 * p + 2) := by rw [show (5 : Int32) = nI 5 from rfl, show (2 : Int32) = nI 2 from rfl, pk_mul, nI_add]
  rw [X10_knownDrawn_8, h, if_neg (nI_ge hp (by omega)), e, if_pos ((n_inn (by omega)).mpr (by omega)), n_cl (by omega), show nI p + (1 : Int32) = nI (p + 1) from nI_1 p]
  rfl
theorem dw_c (hG : GO nt 999 G) : ∀ n p m, p ≤ G 0 0 → G 0 0 - p < n → CE cd r nt z ve m → RF 23 m (dwG G v p).1 → ∃ m', X9_drawn_15 nt z n (dwG G v p).2 (nI p) m = some (nI (dwV cd r G v), m') ∧ CE cd r nt z ve m' ∧ SF m m' := by
  have g0 := hG.1
  intro n
  induction n with
  | zero => intro t m _ h; omega
  | succ n ih =>
    intro p m hp hn hE hR
    obtain ⟨i1, i2⟩ := dwG_i (v := v) hG p
    have s0 := hR.1 0 (by decide)
    rw [i2] at s0
    by_cases h8 : p = G 0 0
    · subst h8
      obtain ⟨m1, i', x1, x2, x3, x4, x5, x6, x7⟩ := rounds_c (bu := 9) (k := 5) hE hR fo23 i1 (by decide) (by decide) (by decide)
      obtain ⟨j1, j2, j3, j4⟩ := rdA_i (cd := cd) (r := r) (bu := 9) i1 i'
      have u1 := ways_c (bu := 9) x3 j1 (by decide)
      rw [rd_0 i1 i', i2, ← wyS_q x4] at u1
      have u1' : X0_ways 23 (-nI 1) m1 = some (nI (dwV cd r G v), m1) := u1
      have x1' : X2_rounds nt z 23 (nI 5) (-nI 1) m = some (nI (rdA cd r 9 (dwG G v (G 0 0)).1 5).1, m1) := x1
      rw [X9_drawn_15]
      simp (disch := omega) only [leT, leF, ltT, ltF, eqT, eqF, inT, n_cl, nI_add, pk_mul, n_div, pk_sub, md8, md2, or_true, true_or, or_false, false_or, Bool.true_eq_false, Bool.false_eq_true, L0, L1, L2, L3, L4, L5, L6, L7, L8, L9, L10, L20, L31, L40, L64, L99, L100, L255, L256, L999, L1000, L99999, ↓reduceIte, L11, L12, L13, L14, L15, L16, L30, L48, L160, K1, K2, K3, K4, K5, K7, K8, K9, K15, K17, K20, K27, K37, K48, K99, K255, inR, isPlace_r, isPlace_c, isSheet_r, s0, x1', bi, u1']
      exact ⟨m1, rfl, x2, SF_m x5⟩
    · rw [dwc_s s0 g0 (by omega), (dwN_e _).1]
      have hR2 : RF 23 (pI m 27 p (nI (dwN (nxD (dwG G v p).2)))) (dwG G v (p + 1)).1 := RF_u (j := 4) (by decide) hR
      have E2 : CE cd r nt z ve (pI m 27 p (nI (dwN (nxD (dwG G v p).2)))) := CE_g hE (fun x j h => by rw [rIn (by omega)]) (fun _ _ _ _ => rfl)
      obtain ⟨m2, b1, b2, b3⟩ := ih (p + 1) _ (by omega) (by omega) E2 hR2
      exact ⟨m2, b1, b2, SF_t (fun x j _ _ _ h _ _ _ _ => by rw [rIn (by omega)]) b3⟩
theorem drawn_c (hE : CE cd r nt z ve m) (hR : RF 5 m G) (hG : GO nt 999 G) (v : Int32) : ∃ m', X9_drawn nt z v m = some (nI (dwV cd r G v), m') ∧ CE cd r nt z ve m' ∧ SF m m' := by
  have g0 := hG.1
  obtain ⟨mt, t1, t2, t3, t4⟩ := think_c hE hR
  obtain ⟨m1, a1, a2, a3⟩ := dw_c (cd := cd) (r := r) (z := z) (ve := ve) (v := v) hG 10000 0 mt (Nat.zero_le _) (by omega) t3 t2
  refine ⟨m1, ?_, a2, SF_t t4 a3⟩
  unfold X9_drawn
  rw [show dwG G v 0 = (G, v) from rfl] at a1
  simp only [t1, bv, L0]
  exact a1
theorem dw52 {m0 : Mem} {G0 : Fo} (hR0 : RR m0 G0) (hG : GO nt R G) : ∀ n i m, i ≤ 5 → 5 - i < n → RE cd r nt m → RR m (rdA cd r 9 G i).2 → Asd m0 m → ∃ mb, X10_knownDrawn_52 n (nI i) m = some (nI (wyS (rdA cd r 9 G 5).2 9 (G 0 0)), mb) ∧ RR mb G0 ∧ Bk m0 mb := by
  intro n
  induction n with
  | zero => intro i m _ h; omega
  | succ n ih =>
    intro i m hi hn hE hR hA
    obtain ⟨j1, j2, j3, j4⟩ := rdA_i (cd := cd) (r := r) (bu := 9) hG i
    have n0 := rd_0 (cd := cd) (r := r) (bu := 9) hG i
    rw [X10_knownDrawn_52]
    by_cases h8 : i = 5
    · subst h8
      obtain ⟨mb, b1, b2, b3⟩ := back_r hA hR0
      have u1 := known_r hR j1
      rw [n0] at u1
      simp (disch := omega) only [leT, leF, ltT, ltF, eqT, eqF, inT, n_cl, nI_add, pk_mul, n_div, pk_sub, md8, md2, or_true, true_or, or_false, false_or, Bool.true_eq_false, Bool.false_eq_true, L0, L1, L2, L3, L4, L5, L6, L7, L8, L9, L10, L20, L31, L40, L64, L99, L100, L255, L256, L999, L1000, L99999, ↓reduceIte, L11, L12, L13, L14, L15, L16, L30, L48, L160, K1, K2, K3, K4, K5, K7, K8, K9, K15, K17, K20, K27, K37, K48, K99, K255, inR, isPlace_r, isPlace_c, isSheet_r, u1, bi, b1, bv]
      exact ⟨mb, rfl, b2, b3⟩
    · obtain ⟨m1, y1, y2, y3⟩ := passes_r (bu := 9) hE hR j1 (by decide)
      have y1' : X10_passes (-nI 1) m = some (nI (passA cd r 9 (rdA cd r 9 G i).2).1, m1) := y1
      obtain ⟨mb, b1, b2, b3⟩ := ih (i + 1) m1 (by omega) (by omega) (FrT_re y3 hE) y2 (Asd_t hA y3)
      simp (disch := omega) only [leT, leF, ltT, ltF, eqT, eqF, inT, n_cl, nI_add, pk_mul, n_div, pk_sub, md8, md2, or_true, true_or, or_false, false_or, Bool.true_eq_false, Bool.false_eq_true, L0, L1, L2, L3, L4, L5, L6, L7, L8, L9, L10, L20, L31, L40, L64, L99, L100, L255, L256, L999, L1000, L99999, ↓reduceIte, L11, L12, L13, L14, L15, L16, L30, L48, L160, K1, K2, K3, K4, K5, K7, K8, K9, K15, K17, K20, K27, K37, K48, K99, K255, inR, isPlace_r, isPlace_c, isSheet_r, y1', bi]
      exact ⟨mb, b1, b2, b3⟩
theorem dw_r {m0 : Mem} (hR0 : RR m0 G) (hG : GO nt R G) : ∀ n p m, p ≤ G 0 0 → G 0 0 - p < n → RE cd r nt m → RR m (dwG G v p).1 → Asd m0 m → ∃ mb, X10_knownDrawn_8 n (dwG G v p).2 (nI p) m = some (nI (dwV cd r G v), mb) ∧ RR mb G ∧ Bk m0 mb := by
  have g0 := hG.1
  intro n
  induction n with
  | zero => intro t m _ h; omega
  | succ n ih =>
    intro p m hp hn hE hR hA
    obtain ⟨i1, i2⟩ := dwG_i (v := v) hG p
    have s0 := hR.1
    rw [i2] at s0
    by_cases h8 : p = G 0 0
    · subst h8
      obtain ⟨mb, b1, b2, b3⟩ := dw52 (cd := cd) (r := r) hR0 i1 10000 0 m (by decide) (by decide) hE hR hA
      rw [i2] at b1
      rw [X10_knownDrawn_8]
      simp (disch := omega) only [leT, leF, ltT, ltF, eqT, eqF, inT, n_cl, nI_add, pk_mul, n_div, pk_sub, md8, md2, or_true, true_or, or_false, false_or, Bool.true_eq_false, Bool.false_eq_true, L0, L1, L2, L3, L4, L5, L6, L7, L8, L9, L10, L20, L31, L40, L64, L99, L100, L255, L256, L999, L1000, L99999, ↓reduceIte, L11, L12, L13, L14, L15, L16, L30, L48, L160, K1, K2, K3, K4, K5, K7, K8, K9, K15, K17, K20, K27, K37, K48, K99, K255, inR, isPlace_r, isPlace_c, isSheet_r, s0]
      exact ⟨mb, b1, b2, b3⟩
    · rw [dwr_s s0 g0 (by omega), (dwN_e _).1]
      have hR2 : RR (pI m 69 (5 * p + 2) (nI (dwN (nxD (dwG G v p).2)))) (dwG G v (p + 1)).1 := RR_u (j := 4) (by decide) (by decide) hR
      exact ih (p + 1) _ (by omega) (by omega) (RE_f (fun x j h => by rw [rIn (by omega)]) hE) hR2 (Asd_69 hA)
theorem drawn_r (hE : RE cd r nt m) (hR : RR m G) (hG : GO nt R G) (v : Int32) : ∃ mb, X10_knownDrawn v m = some (nI (dwV cd r G v), mb) ∧ RR mb G ∧ Bk m mb := by
  have g0 := hG.1
  obtain ⟨ma, a1, a2, a3⟩ := aside_r m hR
  obtain ⟨mb, b1, b2, b3⟩ := dw_r (cd := cd) (r := r) (v := v) hR hG 10000 0 ma (Nat.zero_le _) (by omega) (Asd_re a2 hE) a3 a2
  refine ⟨mb, ?_, b2, b3⟩
  unfold X10_knownDrawn
  rw [show dwG G v 0 = (G, v) from rfl] at b1
  simp only [a1, bv, L0]
  exact b1
end
theorem o_drawn : ob_drawn Iv := by
  rintro c nt z m a1 hc ⟨cd, r, rk, G, H, tp, n, ve, hv, hE, hW⟩
  have hG := hW.2.2.2.1
  obtain ⟨m1, x1, x2, x3⟩ := drawn_c hE hW.2.1 hG a1
  have W1 := IW_s x3 hW
  obtain ⟨m2, y1, y2, y3⟩ := drawn_r W1.1 W1.2.2.1 hG a1
  refine ⟨nI (dwV cd r G a1), m1, m2, x1, ?_, Iv_b hv x2 W1 y2 y3⟩
  unfold X10_drawn
  simp only [y1, bi]
