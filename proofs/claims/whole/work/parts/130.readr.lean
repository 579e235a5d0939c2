/-! TEXT: the reference reads a text -/
section
variable {b : Nat → Nat} {S B : Nat} {nm : Nat → Int32}
theorem part_r (hB : By b S) {m : Mem} {p k : Nat} (hk : k ≠ 0 ∧ k ≠ 1) (hp : p ≤ S) (h : RS b S B nm m p 0) : ∃ v m', X10_part (if tK b p = k then 1 else 0) m = some (v, m') ∧ PR b S B nm m m' 0 (nd 0 0) v (rdP b k p) := by
  have hS := hB.hS
  unfold rdP X10_part
  have bad : ∀ (m1 : Mem) (f : Nat), FrR m m1 → RB m1 f → ∀ v, ∃ v' m', X10_part_34 v m1 = some (v', m') ∧ PR b S B nm m m' 0 (nd 0 0) v' (.inl f) := by
    intro m1 f hf hb v
    unfold X10_part_34
    rw [RB_sign hb, bi_s, if_pos rfl, RB_fail hb, bv_s]
    unfold X10_part_48
    rw [hb.1, if_neg (by decide)]
    exact ⟨_, _, rfl, PR_l hf hb⟩
  by_cases hkk : tK b p = k
  · rw [if_pos hkk, if_neg (by decide), if_pos hkk]
    unfold X10_part_8
    rw [h.2.2.2.1, if_pos rfl]
    obtain ⟨m1, e1, e2, e3⟩ := RS_next hB hp h (by omega)
    have hN := tN_le hB hp
    rw [e1, bv_s]
    unfold X10_part_19
    rw [e2.2.2.2.1, if_pos rfl]
    obtain ⟨v, m2, g1, g2⟩ := se_0 (nm := nm) (B := B) hB 2000 (tN b p) m1 hN.2 (by omega) e2
    rw [g1, bi_s]
    rcases hr : ps b 2000 0 0 [] (tN b p) with e | ⟨c, q⟩
    · rw [hr] at g2
      exact bad m2 e (e3.tr g2.1) g2.2 v
    · rw [hr] at g2
      obtain ⟨p1, p2, p3, p4⟩ := ps_pr hB _ _ _ _ _ _ _ hN.2 hr
      rw [bR_r]
      unfold X10_part_34
      rw [show (59 : Int32) = nI 59 from rfl, RS_sign g2.2.1 (by decide), bi_s]
      by_cases k59 : tK b q = 59
      · rw [if_pos k59, if_neg (by decide), if_pos k59]
        unfold X10_part_48
        rw [g2.2.1.2.2.2.1, if_pos rfl]
        obtain ⟨m3, i1, i2, i3⟩ := RS_next hB p1 g2.2.1 (by omega)
        rw [i1, bv_s]
        exact ⟨_, _, rfl, PR_r ((e3.tr g2.1).tr i3) i2 g2.2.2⟩
      · rw [if_neg k59, if_pos rfl, if_neg k59]
        obtain ⟨m3, i1, i2, i3⟩ := RS_fail g2.2.1
        rw [i1, bv_s]
        unfold X10_part_48
        rw [i2.1, if_neg (by decide)]
        exact ⟨_, _, rfl, PR_l ((e3.tr g2.1).tr i3) i2⟩
  · rw [if_neg hkk, if_pos rfl, if_neg hkk]
    obtain ⟨m1, e1, e2, e3⟩ := RS_fail h
    rw [e1, bv_s]
    unfold X10_part_8
    rw [e2.1, if_neg (by decide)]
    unfold X10_part_19
    rw [e2.1, if_neg (by decide)]
    exact bad m1 _ e3 e2 0
end
/-- a text of the reference -/
def Tx (m : Mem) (t : Nat) (b : Nat → Nat) (S : Nat) : Prop := t < 6 ∧ m.1 65 t = nI S ∧ ∀ i, i < S → m.1 64 (160 * t + i) = nI (b i)
/-- what stays the same where the reference reads a text -/
def FrD (m m' : Mem) : Prop := (∀ x j, ¬ (x = 63 ∧ 19 ≤ j ∧ j ≤ 27) → m'.1 x j = m.1 x j) ∧ ∀ x j, ¬ (x = 63 ∧ j = 24) → m'.2 x j = m.2 x j
def RdR (m m' : Mem) (nm : Nat → Int32) (w : Nat) (v : Int32) (R : Nat ⊕ (List Int32 × List Int32 × List Int32)) : Prop := FrD m m' ∧ match R with
  | .inl f => m'.1 63 26 = 1 ∧ m'.1 63 27 = nI f
  | .inr (c1, c2, c3) => m'.1 63 26 = 0 ∧ Vl nm 31 (if w = 0 then c1 else if w = 1 then c2 else c3) v
theorem read_r {b : Nat → Nat} {S t w : Nat} {nm : Nat → Int32} {m : Mem} (hB : By b S) (hT : Tx m t b S) (hn : ∀ i, i < 6 → m.1 63 (13 + i) = nm i) (hw : w < 3) : ∃ v m', X10_read (nI t) (nI w) m = some (v, m') ∧ RdR m m' nm w v (rdT b) := by
  have hS := hB.hS
  obtain ⟨t1, t2, t3⟩ := hT
  unfold X10_read
  rw [if_pos (show inn (nI t) 6 by rw [n_inn (by omega)]; exact t1), show (160 : Int32) * nI t = nI (160 * t) from pk_mul 160 t, n_cl (by omega)]
  have q20 : (pI m 63 19 (nI (160 * t))).1 65 t = nI S := by rw [rI, if_neg (by omega)]; exact t2
  rw [q20]
  have F0 : FrD m (pI (pI (pI (pI (pI m 63 19 (nI (160 * t))) 63 20 (nI S)) 63 21 0) 63 25 0) 63 26 0) := by
    refine ⟨fun x j hx => ?_, fun _ _ _ => rfl⟩
    rw [rI, if_neg (by omega), rI, if_neg (by omega), rI, if_neg (by omega), rI, if_neg (by omega), rI, if_neg (by omega)]
  have R0 : Rt (pI (pI (pI (pI (pI m 63 19 (nI (160 * t))) 63 20 (nI S)) 63 21 0) 63 25 0) 63 26 0) b S (160 * t) := ⟨by simp [rI], by simp [rI], by omega, fun i hi => by rw [F0.1 _ _ (by omega)]; exact t3 i hi⟩
  obtain ⟨m1, e1, e2, e3⟩ := nxt_r (p := 0) hB (Nat.zero_le _) R0 (by simp [rI]; rfl)
  rw [e1, bv_s]
  have S1 : RS b S (160 * t) nm m1 0 0 := ⟨R0.fr e3, e2, by rw [e3.1 _ _ (by omega)]; simp [rI]; rfl, by rw [e3.1 _ _ (by omega)]; simp [rI], fun i hi => by rw [e3.1 _ _ (by omega), F0.1 _ _ (by omega)]; exact hn i hi⟩
  have F1 : FrD m m1 := ⟨fun x j hx => by rw [e3.1 x j (by omega)]; exact F0.1 x j hx, fun x j hx => by rw [e3.2 x j hx]; exact F0.2 x j hx⟩
  have FD : ∀ {m' m2 : Mem}, FrD m m' → FrR m' m2 → FrD m m2 := fun h g => ⟨fun x j hx => by rw [g.1 x j (by omega)]; exact h.1 x j hx, fun x j hx => by rw [g.2 x j hx]; exact h.2 x j hx⟩
  have w0 : (nI w = 0) = (w = 0) := n_eq (b := 0) (by omega) (by decide)
  have w1 : (nI w = 1) = (w = 1) := n_eq (b := 1) (by omega) (by decide)
  have e146 : ∀ (a c d : Int32) (mz : Mem), X10_read_146 (nI w) a c d mz = some ((if w = 0 then a else if w = 1 then c else d), mz) := by
    intro a c d mz
    unfold X10_read_146
    by_cases h0 : w = 0
    · rw [if_pos (w0.mpr h0), if_pos h0]
    · rw [if_neg (fun q => h0 (w0.mp q)), if_neg h0]
      by_cases h1 : w = 1
      · rw [if_pos (w1.mpr h1), if_pos h1]
      · rw [if_neg (fun q => h1 (w1.mp q)), if_neg h1]
  obtain ⟨_, a0⟩ := tkA_s hB (Nat.zero_le S)
  rw [isKey_0 hB S1.1 a0 S1.2.1 S1.2.2.2.1, bi_s]
  obtain ⟨v1, m2, g1, g2⟩ := part_r (k := 10) hB (by decide) (Nat.zero_le _) S1
  rw [show (if kAt b (tkA b 0) = 10 then (1 : Int32) else 0) = (if tK b 0 = 10 then 1 else 0) from rfl, g1, bi_s]
  unfold rdT
  rcases hr1 : rdP b 10 0 with f1 | ⟨c1, p1⟩
  · rw [hr1] at g2
    unfold X10_read_92 X10_read_126
    rw [g2.2.1, if_neg (by decide), if_neg (by decide), if_neg (by decide), e146]
    exact ⟨_, _, rfl, FD F1 g2.1, g2.2⟩
  · rw [hr1] at g2
    have q1 := rdP_pr hB (Nat.zero_le _) (by decide) hr1
    obtain ⟨S2, V1⟩ := g2.2
    rw [S2.2.2.2.1, if_pos rfl]
    obtain ⟨_, a1⟩ := tkA_s hB q1.1
    rw [isKey_1 hB S2.1 a1 S2.2.1 S2.2.2.2.1, bi_s]
    obtain ⟨v2, m3, i1, i2⟩ := part_r (k := 11) hB (by decide) q1.1 S2
    rw [show (if kAt b (tkA b p1) = 11 then (1 : Int32) else 0) = (if tK b p1 = 11 then 1 else 0) from rfl, i1, bi_s]
    simp only
    unfold X10_read_92
    rcases hr2 : rdP b 11 p1 with f2 | ⟨c2, p2⟩
    · rw [hr2] at i2
      unfold X10_read_126
      rw [i2.2.1, if_neg (by decide), if_neg (by decide), e146]
      exact ⟨_, _, rfl, FD (FD F1 g2.1) i2.1, i2.2⟩
    · rw [hr2] at i2
      have q2 := rdP_pr hB q1.1 (by decide) hr2
      obtain ⟨S3, V2⟩ := i2.2
      rw [S3.2.2.2.1, if_pos rfl]
      obtain ⟨_, a2⟩ := tkA_s hB q2.1
      rw [isKey_2 hB S3.1 a2 S3.2.1 S3.2.2.2.1, bi_s]
      obtain ⟨v3, m4, j1, j2⟩ := part_r (k := 12) hB (by decide) q2.1 S3
      rw [show (if kAt b (tkA b p2) = 12 then (1 : Int32) else 0) = (if tK b p2 = 12 then 1 else 0) from rfl, j1, bi_s]
      simp only
      unfold X10_read_126
      have F4 : FrD m m4 := FD (FD (FD F1 g2.1) i2.1) j2.1
      rcases hr3 : rdP b 12 p2 with f3 | ⟨c3, p3⟩
      · rw [hr3] at j2
        rw [j2.2.1, if_neg (by decide), e146]
        exact ⟨_, _, rfl, F4, j2.2⟩
      · rw [hr3] at j2
        have q3 := rdP_pr hB q2.1 (by decide) hr3
        obtain ⟨S4, V3⟩ := j2.2
        rw [S4.2.2.2.1, if_pos rfl]
        have t0 := tok0_r S4.2.1
        simp only
        by_cases h0 : tK b p3 = 0
        · rw [if_pos (t0.mpr h0), if_pos h0, e146]
          refine ⟨_, _, rfl, F4, S4.2.2.2.1, ?_⟩
          by_cases h0 : w = 0
          · rw [if_pos h0, if_pos h0]; exact V1
          · rw [if_neg h0, if_neg h0]
            by_cases h1 : w = 1
            · rw [if_pos h1, if_pos h1]; exact V2
            · rw [if_neg h1, if_neg h1]; exact V3
        · rw [if_neg (fun q => h0 (t0.mp q)), if_neg h0]
          obtain ⟨m5, k1, k2, k3⟩ := RS_fail S4
          rw [k1, bv_s, e146]
          exact ⟨_, _, rfl, FD F4 k3, k2⟩
