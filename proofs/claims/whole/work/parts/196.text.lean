/-! calls: text, whole -/
theorem GO_nt {nt nt' R : Nat} {G : Fo} (h : nt ≤ nt') (g : GO nt R G) : GO nt' R G := ⟨g.1, g.2.1, Nat.le_trans g.2.2.1 h, g.2.2.2⟩
theorem KP_nt {nt nt' : Nat} {rk : Nat → Nat} {G H : Fo} {m : Mem} (h : nt ≤ nt') (g : KP nt rk G H m) : KP nt' rk G H m := by
  rcases g with g | ⟨g1, g2, g3, g4, g5, g6, g7, g8, g9⟩
  · exact .inl g
  · exact .inr ⟨g1, g2, GO_nt h g3, g4, g5, g6, g7, g8, g9⟩
theorem TxC_g {m m' : Mem} {z z' : Nat → Nat} {k : Nat} {c : Cd} (h : ∀ i j, i < 3 → m'.1 (tid k + i) j = m.1 (tid k + i) j) (h1 : ln z' (tid k + 1) = ln z (tid k + 1)) (h2 : ln z' (tid k + 2) = ln z (tid k + 2)) (g : TxC m z k c) : TxC m' z' k c := by
  obtain ⟨⟨g1, g2, g3, g4, g5, g6, g7, g8, g9⟩, k2, k3, k4⟩ := g
  have f0 := fun j => h 0 j (by decide)
  rw [Nat.add_zero] at f0
  have f1 := fun j => h 1 j (by decide)
  have f2 := fun j => h 2 j (by decide)
  exact ⟨⟨g1, g2, by rw [h2]; exact g3, by rw [h1]; exact g4, g5, by rw [f2]; exact g6, by rw [f2]; exact g7, by rw [f2]; exact g8, fun i hi => by rw [f1]; exact g9 i hi⟩, by rw [f0]; exact k2, by rw [f0]; exact k3, k4⟩
theorem ln_0 {z : Nat → Nat} : ln z (52 + 1) = z 0 := by unfold ln; rw [if_pos (by decide)]
theorem ln_0' {z : Nat → Nat} : ln z (52 + 2) = 3 := by unfold ln; rw [if_neg (by decide), if_pos (by decide)]; rfl
theorem ln_1 {z : Nat → Nat} {k : Nat} (hk : 1 ≤ k) : ln z (76 + 3 * k + 1) = z k := by
  unfold ln
  rw [if_neg (by omega), if_neg (by omega), if_pos (by omega), show (76 + 3 * k + 1 - 79) / 3 + 1 = k by omega]
theorem ln_2 {z : Nat → Nat} {k : Nat} (hk : 1 ≤ k) : ln z (76 + 3 * k + 2) = 3 := by
  unfold ln
  rw [if_neg (by omega), if_neg (by omega), if_neg (by omega)]
def bTp (tp : Nat → Nat) (n : Nat) : Nat → Nat := fun i => if i < n then tp i else 256
theorem bTp_b {tp : Nat → Nat} {n : Nat} (hn : n ≤ 160) (h : ∀ i, i < n → tp i < 256) : By (bTp tp n) n := ⟨hn, fun i hi => by unfold bTp; rw [if_pos hi]; exact h i hi, fun i hi => by unfold bTp; rw [if_neg (by omega)]⟩
/-- what the reference makes of the tape -/
theorem txt_r {T n : Nat} {tp : Nat → Nat} {m : Mem} (hT : T < 6) (hn : n ≤ 160) (h3 : m.1 63 3 = nI T) (h6 : m.1 63 6 = nI n) (h66 : ∀ i, i < n → m.1 66 i = nI (tp i)) (hb : ∀ i, i < n → tp i < 256) : ∃ m2 v, X10_text m = some (v, m2) ∧ Tx m2 T (bTp tp n) n ∧ m2.1 63 6 = nI 0 ∧ (∀ x j, ¬ (x = 64 ∧ 160 * T ≤ j ∧ j < 160 * T + 160) → ¬ (x = 65 ∧ j = T) → ¬ (x = 63 ∧ (j = 6 ∨ j = 3 ∨ 19 ≤ j ∧ j ≤ 27)) → m2.1 x j = m.1 x j) ∧ (∀ x j, ¬ (x = 63 ∧ j = 24) → m2.2 x j = m.2 x j) ∧ (match rdT (bTp tp n) with
    | .inl f => v = -nI 100 - nI f ∧ m2.1 63 3 = nI T
    | .inr _ => v = nI T ∧ m2.1 63 3 = nI (T + 1)) := by
  obtain ⟨mn, a1, a2, a3⟩ := txl hT hn h3 h6 10000 0 m (Nat.zero_le _) (by omega) (fun x j => by rw [if_neg (by omega)]) rfl
  have hx : X10_text m = txT T n mn := by
    unfold X10_text
    simp (disch := omega) only [leT, leF, ltT, ltF, eqT, eqF, inT, n_cl, nI_add, pk_mul, n_div, pk_sub, md8, md2, or_true, true_or, or_false, false_or, Bool.true_eq_false, Bool.false_eq_true, L0, L1, L2, L3, L4, L5, L6, L7, L8, L9, L10, L20, L31, L40, L64, L99, L100, L255, L256, L999, L1000, L99999, ↓reduceIte, L11, L12, L13, L14, L15, L16, L30, L48, L160, K1, K2, K3, K4, K5, K7, K8, K9, K15, K17, K20, K27, K37, K48, K99, K255, inR, isPlace_r, isPlace_c, isSheet_r, h3]
    exact a3
  have tx : Tx (pI (pI mn 65 T (nI n)) 63 6 (nI 0)) T (bTp tp n) n := by
    refine ⟨hT, by rw [rIn (by omega), rIs], fun i hi => ?_⟩
    rw [rIn (by omega), rIn (by omega), a1, if_pos (by omega), show 160 * T + i - 160 * T = i by omega, h66 i hi]
    unfold bTp; rw [if_pos hi]
  obtain ⟨v, m', r1, r2⟩ := read_r (w := 0) (nm := fun i => (pI (pI mn 65 T (nI n)) 63 6 (nI 0)).1 63 (13 + i)) (bTp_b hn hb) tx (fun _ _ => rfl) (by decide)
  obtain ⟨fr, r3⟩ := r2
  have F : ∀ x j, ¬ (x = 64 ∧ 160 * T ≤ j ∧ j < 160 * T + 160) → ¬ (x = 65 ∧ j = T) → ¬ (x = 63 ∧ (j = 6 ∨ 19 ≤ j ∧ j ≤ 27)) → m'.1 x j = m.1 x j := fun x j q1 q2 q3 => by
    rw [fr.1 x j (by omega), rIn (by omega), rIn (by omega), a1, if_neg (by omega)]
  have F2 : ∀ x j, ¬ (x = 63 ∧ j = 24) → m'.2 x j = m.2 x j := fun x j q => by rw [fr.2 x j q, rI2, rI2, a2]
  have e3 : m'.1 63 3 = nI T := by rw [F _ _ (by omega) (by omega) (by omega)]; exact h3
  have e6 : m'.1 63 6 = nI 0 := by rw [fr.1 _ _ (by omega), rIs]
  have tx' : Tx m' T (bTp tp n) n := ⟨hT, by rw [fr.1 _ _ (by omega)]; exact tx.2.1, fun i hi => by rw [fr.1 _ _ (by omega)]; exact tx.2.2 i hi⟩
  rcases hr : rdT (bTp tp n) with f | c
  · rw [hr] at r3
    have r26 : (m'.1 63 26 = nI 0) = False := eq_false (by rw [r3.1]; decide)
    refine ⟨m', -nI 100 - nI f, ?_, tx', e6, fun x j q1 q2 q3 => F x j q1 q2 (by omega), F2, rfl, e3⟩
    rw [hx]
    unfold txT
    simp only [r1, bi, r26, ↓reduceIte, r3.2]
  · rw [hr] at r3
    have r26 : (m'.1 63 26 = nI 0) = True := eq_true r3.1
    refine ⟨pI m' 63 3 (nI (T + 1)), nI T, ?_, ⟨hT, by rw [rIn (by omega)]; exact tx'.2.1, fun i hi => by rw [rIn (by omega)]; exact tx'.2.2 i hi⟩, by rw [rIn (by omega)]; exact e6, fun x j q1 q2 q3 => by rw [rIn (by omega)]; exact F x j q1 q2 (by omega), F2, rfl, rIs⟩
    rw [hx]
    unfold txT
    simp (disch := omega) only [r1, bi, r26, ↓reduceIte, e3, nI_add, rIs, pk_sub, Nat.add_sub_cancel]
theorem o_text : ob_text Iv := by
  rintro c nt z m hc ⟨cd, r, rk, G, H, tp, n, ve, hv, hE, hW⟩
  have hW0 := hW
  obtain ⟨w1, w2, w3, w4, w5, w6, w7, w8⟩ := hW
  obtain ⟨t1, t2, t3, t4⟩ := w6
  have n5 := w1.1
  by_cases h5 : nt = 5
  · left
    have e1 := w7.1
    have e2 := w7.2
    rw [h5] at e1 e2
    refine ⟨by rw [e1]; decide, m, ?_, Iv_0 hv hE hW0⟩
    unfold X10_text
    rw [e2]
    rfl
  · right
    have hB : By (bTp tp n) n := bTp_b t1 (fun i hi => (t4 i hi).2.2)
    have hTp : Tp m (bTp tp n) n := ⟨t2, fun i hi => by rw [(t4 i hi).1]; unfold bTp; rw [if_pos hi]⟩
    obtain ⟨r8, r9, mA, a1, a2, a3, a4, a5⟩ := read_c hB hTp
    refine ⟨by rw [w7.1]; exact (show ¬ nI 6 ≤ nI (nt + 1) from nI_ge (by omega) (by decide)), r8, r9, mA, a1, ?_⟩
    have fin : ∀ (mx : Mem), (∀ x j, x ≠ 30 → x ≠ 32 → x ≠ 33 → ¬ (79 + 3 * nt ≤ x) → mx.1 x j = m.1 x j) → ∃ m2 v, X10_text mx = some (v, m2) ∧ Tx m2 (nt + 1) (bTp tp n) n ∧ m2.1 63 6 = nI 0 ∧ (∀ x j, ¬ (x = 64 ∧ 160 * (nt + 1) ≤ j ∧ j < 160 * (nt + 1) + 160) → ¬ (x = 65 ∧ j = nt + 1) → ¬ (x = 63 ∧ (j = 6 ∨ j = 3 ∨ 19 ≤ j ∧ j ≤ 27)) → m2.1 x j = mx.1 x j) ∧ (∀ x j, ¬ (x = 63 ∧ j = 24) → m2.2 x j = mx.2 x j) ∧ (match rdT (bTp tp n) with
        | .inl f => v = -nI 100 - nI f ∧ m2.1 63 3 = nI (nt + 1)
        | .inr _ => v = nI (nt + 1) ∧ m2.1 63 3 = nI (nt + 1 + 1)) := fun mx hx => txt_r (by omega) t1 (by rw [hx _ _ (by omega) (by omega) (by omega) (by omega)]; exact w7.2) (by rw [hx _ _ (by omega) (by omega) (by omega) (by omega)]; exact t3) (fun i hi => by rw [hx _ _ (by omega) (by omega) (by omega) (by omega)]; exact (t4 i hi).2.1) (fun i hi => (t4 i hi).2.2)
    have re : ∀ (m2 : Mem), (∀ x j, x ≠ 30 → x ≠ 32 → x ≠ 33 → ¬ (79 + 3 * nt ≤ x) → ¬ (x = 64 ∧ 160 * (nt + 1) ≤ j ∧ j < 160 * (nt + 1) + 160) → ¬ (x = 65 ∧ j = nt + 1) → ¬ (x = 63 ∧ (j = 6 ∨ j = 3 ∨ 19 ≤ j ∧ j ≤ 27)) → m2.1 x j = m.1 x j) → (∀ k, k ≤ nt → ∃ b S, By b S ∧ Tx m2 k b S ∧ rdT b = .inr (cd k)) ∧ Ro m2 67 r ∧ (∀ q, q < 64 → m2.1 70 q = nI (fwD r q)) ∧ RF 5 m2 G ∧ RR m2 G ∧ KP nt rk G H m2 ∧ ∀ i, i < 4 → SHE m2 i := by
      intro m2 F
      refine ⟨fun k hk => ?_, fun k hk => ?_, fun k hk => ?_, RF_g (fun x j h1 h2 => F x j (by omega) (by omega) (by omega) (by omega) (by omega) (by omega) (by omega)) w2, RR_f (fun x j h => F x j (by omega) (by omega) (by omega) (by omega) (by omega) (by omega) (by omega)) w3, KP_g (fun x j h => F x j (by omega) (by omega) (by omega) (by omega) (by omega) (by omega) (by omega)) w5, fun i hi => SHE_g hi (fun x j h => F x j (by omega) (by omega) (by omega) (by omega) (by omega) (by omega) (by omega)) (w8 i hi)⟩
      · obtain ⟨b, S, q1, q2, q3⟩ := w1.2.1 k hk
        have hS := q1.1
        exact ⟨b, S, q1, ⟨q2.1, by rw [F _ _ (by omega) (by omega) (by omega) (by omega) (by omega) (by omega) (by omega)]; exact q2.2.1, fun i hi => by rw [F _ _ (by omega) (by omega) (by omega) (by omega) (by omega) (by omega) (by omega)]; exact q2.2.2 i hi⟩, q3⟩
      · rw [F _ _ (by omega) (by omega) (by omega) (by omega) (by omega) (by omega) (by omega)]; exact w1.2.2.2.1 k hk
      · rw [F _ _ (by omega) (by omega) (by omega) (by omega) (by omega) (by omega) (by omega)]; exact w1.2.2.2.2 k hk
    rcases hr : rdT (bTp tp n) with f | ⟨c1, c2, c3⟩
    · rw [hr] at a5
      left
      obtain ⟨m2, v, b1, b2, b3, b4, b5, b6⟩ := fin mA (fun x j h1 h2 _ _ => a2 x j h1 h2)
      rw [hr] at b6
      obtain ⟨b61, b62⟩ := b6
      have F : ∀ x j, x ≠ 30 → x ≠ 32 → ¬ (x = 64 ∧ 160 * (nt + 1) ≤ j ∧ j < 160 * (nt + 1) + 160) → ¬ (x = 65 ∧ j = nt + 1) → ¬ (x = 63 ∧ (j = 6 ∨ j = 3 ∨ 19 ≤ j ∧ j ≤ 27)) → m2.1 x j = m.1 x j := fun x j h1 h2 h3 h4 h5 => by rw [b4 x j h3 h4 h5, a2 x j h1 h2]
      obtain ⟨e1, e2, e3, e4, e5, e6, e7⟩ := re m2 (fun x j h1 h2 h3 h4 h5 h6 h7 => F x j h1 h2 h5 h6 h7)
      refine ⟨?_, m2, ?_, cd, r, rk, G, H, tp, 0, ve, by omega, CE_g hE (fun x j h => F x j (by omega) (by omega) (by omega) (by omega) (by omega)) (fun x j h1 h2 => by rw [b5 x j (by omega), a3]), ⟨n5, e1, w1.2.2.1, e2, e3⟩, e4, e5, w4, e6, ⟨by omega, ?_, b3, fun i hi => absurd hi (Nat.not_lt_zero _)⟩, ⟨by rw [F _ _ (by omega) (by omega) (by omega) (by omega) (by omega)]; exact w7.1, b62⟩, e7⟩
      · rw [a5.2]
        intro q
        have h1 : (nI f).toInt = f := nI_toInt (by have := a5.1; omega)
        rw [q] at h1
        rw [show (-1 : Int32).toInt = -1 from rfl] at h1
        omega
      · rw [b1, b61, a5.2]; rfl
      · rw [b4 _ _ (by omega) (by omega) (by omega), a4]; rfl
    · rw [hr] at a5
      right
      obtain ⟨a51, a52, a53, a54, a55, a56⟩ := a5
      have hcl : (mA.1 30 9).toNatClampNeg = c1.length + c2.length + c3.length := by rw [a55, n_cl (by omega)]
      obtain ⟨mB, i1, i2, i3, i4, i5, i6, i7, i8, i9⟩ := init_c (t := 79 + 3 * nt) (m := mA) (c1 := c1) (c2 := c2) (c3 := c3) (by omega) rfl a54 a56
      have hB33 : mB.1 33 2 = nI (nt + 1) := by rw [i8 _ _ (by omega), a2 _ _ (by omega) (by omega)]; exact w7.1
      have hnew : mB.1 33 2 + 1 = nI (nt + 2) := by rw [hB33]; exact nI_1 _
      refine ⟨a51, mB, ⟨⟨?_, ?_, ?_, ?_⟩, ?_, ?_, ?_⟩, ?_⟩
      · rw [a55]; exact nI_pos (by omega)
      · rw [a55]; exact nI_lt a54 (by decide)
      · rw [hcl]; exact a54
      · rw [hcl, a52, a53]; exact i1
      · rw [hB33]; exact (show ¬ nI 6 ≤ nI (nt + 1) from nI_ge (by omega) (by decide))
      · rw [hB33]; exact (n_inn (by omega)).mpr (by omega)
      · rw [hB33, n_cl (by omega)]
      · rw [hnew, hB33, hcl]
        have FB : ∀ x j, x ≠ 30 → x ≠ 32 → x ≠ 33 → ¬ (79 + 3 * nt ≤ x) → (pI mB 33 2 (nI (nt + 2))).1 x j = m.1 x j := fun x j h1 h2 h3 h4 => by rw [rIn (by omega), i8 x j (by omega), a2 x j h1 h2]
        obtain ⟨m2, v, b1, b2, b3, b4, b5, b6⟩ := fin (pI mB 33 2 (nI (nt + 2))) FB
        rw [hr] at b6
        obtain ⟨b61, b62⟩ := b6
        have F : ∀ x j, x ≠ 30 → x ≠ 32 → x ≠ 33 → ¬ (79 + 3 * nt ≤ x) → ¬ (x = 64 ∧ 160 * (nt + 1) ≤ j ∧ j < 160 * (nt + 1) + 160) → ¬ (x = 65 ∧ j = nt + 1) → ¬ (x = 63 ∧ (j = 6 ∨ j = 3 ∨ 19 ≤ j ∧ j ≤ 27)) → m2.1 x j = m.1 x j := fun x j h1 h2 h3 h4 h5 h6 h7 => by rw [b4 x j h5 h6 h7, FB x j h1 h2 h3 h4]
        have F9 : ∀ x j, ¬ (63 ≤ x ∧ x ≤ 78) → x ≠ 33 → m2.1 x j = mB.1 x j := fun x j h1 h2 => by rw [b4 x j (by omega) (by omega) (by omega), rIn (by omega)]
        obtain ⟨e1, e2, e3, e4, e5, e6, e7⟩ := re m2 F
        obtain ⟨q1, q2, q3, q4, q5, q6, q7, q8⟩ := hE
        have cdN : ∀ k, k ≤ nt → (fun k => if k = nt + 1 then (c1, c2, c3) else cd k) k = cd k := fun k hk => by
          show (if k = nt + 1 then (c1, c2, c3) else cd k) = cd k
          rw [if_neg (by omega)]
        have cdT : (fun k => if k = nt + 1 then (c1, c2, c3) else cd k) (nt + 1) = (c1, c2, c3) := if_pos rfl
        refine ⟨m2, by rw [b1, b61], fun k => if k = nt + 1 then (c1, c2, c3) else cd k, r, rk, G, H, tp, 0, ve, by omega, ⟨by omega, fun k hk => ?_, q3, fun k hk => ?_, fun a ha hb t ht => ?_, ?_, q7, fun i hi => ?_⟩, ⟨by omega, fun k hk => ?_, w1.2.2.1, e2, e3⟩, e4, e5, GO_nt (by omega) w4, KP_nt (by omega) e6, ⟨by omega, ?_, b3, fun i hi => absurd hi (Nat.not_lt_zero _)⟩, ⟨?_, b62⟩, e7⟩
        · by_cases hk1 : k = nt + 1
          · subst hk1
            rw [cdT]
            have ht : tid (nt + 1) = 79 + 3 * nt := by unfold tid; rw [if_neg (by omega)]; omega
            unfold TxC
            rw [ht]
            refine ⟨⟨by omega, by omega, ?_, ?_, a54, ?_, ?_, ?_, fun i hi => ?_⟩, ?_, ?_, Tv_of hB hr⟩
            · unfold ln; rw [if_neg (by omega), if_neg (by omega), if_neg (by omega)]
            · unfold ln
              rw [if_neg (by omega), if_neg (by omega), if_pos (by omega), show (79 + 3 * nt + 1 - 79) / 3 + 1 = nt + 1 by omega]
              unfold va_up
              rw [if_pos rfl]
            · rw [F9 _ _ (by omega) (by omega)]; exact i4
            · rw [F9 _ _ (by omega) (by omega)]; exact i5
            · rw [F9 _ _ (by omega) (by omega)]; exact i6
            · rw [F9 _ _ (by omega) (by omega)]; exact i7 i hi
            · rw [F9 _ _ (by omega) (by omega)]; exact i2
            · rw [F9 _ _ (by omega) (by omega)]; exact i3
          · rw [cdN k (by omega)]
            have htd : 52 ≤ tid k ∧ tid k + 2 < 79 + 3 * nt ∧ ¬ (55 ≤ tid k + 2 ∧ tid k ≤ 78) ∧ (tid k = 52 ∨ tid k = 76 + 3 * k ∧ 1 ≤ k) := by
              unfold tid; split <;> omega
            refine TxC_g (fun i j hi => F _ j (by omega) (by omega) (by omega) (by omega) (by omega) (by omega) (by omega)) ?_ ?_ (q2 k (by omega))
            · rcases htd.2.2.2 with h | ⟨h, h0⟩
              · rw [h, ln_0, ln_0]; unfold va_up; rw [if_neg (by omega)]
              · rw [h, ln_1 h0, ln_1 h0]; unfold va_up; rw [if_neg (by omega)]
            · rcases htd.2.2.2 with h | ⟨h, h0⟩
              · rw [h, ln_0', ln_0']
              · rw [h, ln_2 h0, ln_2 h0]
        · rw [F _ _ (by omega) (by omega) (by omega) (by omega) (by omega) (by omega) (by omega)]; exact q4 k hk
        · rw [F _ _ (by omega) (by omega) (by omega) (by omega) (by omega) (by omega) (by omega)] at hb
          rw [F _ _ (by omega) (by omega) (by omega) (by omega) (by omega) (by omega) (by omega)]; exact q5 a ha hb t ht
        · rw [F _ _ (by omega) (by omega) (by omega) (by omega) (by omega) (by omega) (by omega)]; exact q6
        · have h2 : m2.2 (38 + 2 * i) 0 = m.2 (38 + 2 * i) 0 := by rw [b5 _ _ (by omega), rI2, i9 _ _ (by omega), a3]
          have h1 : ∀ x j, 38 ≤ x → x ≤ 49 → m2.1 x j = m.1 x j := fun x j u1 u2 => F x j (by omega) (by omega) (by omega) (by omega) (by omega) (by omega) (by omega)
          unfold VwO
          rw [h2, h1 _ _ (by omega) (by omega)]
          rcases q8 i hi with g | ⟨ru, pl, nu, kc, ro, g1, g2, g3, g4, g5, g6, g7⟩
          · exact .inl g
          · refine .inr ⟨ru, pl, nu, kc, ro, by omega, g2, g3, g4, g5, ?_, fun w t hw ht hb => ?_⟩
            · rw [cdN ru g1]; exact g6
            · rw [cdN ru g1, h1 _ _ (by omega) (by omega)]; exact g7 w t hw ht hb
        · by_cases hk1 : k = nt + 1
          · subst hk1
            rw [cdT]
            exact ⟨bTp tp n, n, hB, b2, hr⟩
          · rw [cdN k (by omega)]; exact e1 k (by omega)
        · rw [b4 _ _ (by omega) (by omega) (by omega), rIn (by omega), i8 _ _ (by omega), a4]; rfl
        · rw [b4 _ _ (by omega) (by omega) (by omega), rIs]
