/-! TEXT: the class reads a text -/
def rdP (b : Nat → Nat) (k p : Nat) : Nat ⊕ (List Int32 × Nat) := if tK b p = k then bR (ps b 2000 0 0 [] (tN b p)) fun c q => if tK b q = 59 then .inr (c, tN b q) else .inl (tkA b q) else .inl (tkA b p)
def rdT (b : Nat → Nat) : Nat ⊕ (List Int32 × List Int32 × List Int32) := match rdP b 10 0 with
  | .inl e => .inl e
  | .inr (c1, p1) => match rdP b 11 p1 with
    | .inl e => .inl e
    | .inr (c2, p2) => match rdP b 12 p2 with
      | .inl e => .inl e
      | .inr (c3, p3) => if tK b p3 = 0 then .inr (c1, c2, c3) else .inl (tkA b p3)
theorem rdP_pr {b : Nat → Nat} {S : Nat} (hB : By b S) {k p : Nat} {c : List Int32} {q : Nat} (hp : p ≤ S) (hk : k ≠ 0) (h : rdP b k p = .inr (c, q)) : q ≤ S ∧ c.length + p + 1 ≤ q := by
  unfold rdP at h
  by_cases hkk : tK b p = k
  · rw [if_pos hkk] at h
    have hN := tN_le hB hp
    have hG := tN_gt hB hp (by omega)
    rcases hr : ps b 2000 0 0 [] (tN b p) with e | ⟨c2, q2⟩
    · rw [hr, bR_l] at h; cases h
    · rw [hr, bR_r] at h
      obtain ⟨p1, p2, p3, p4⟩ := ps_pr hB _ _ _ _ _ _ _ hN.2 hr
      have p5 := p2 (by decide)
      by_cases h59 : tK b q2 = 59
      · rw [if_pos h59] at h
        have g := tN_le hB p1
        cases h
        omega
      · rw [if_neg h59] at h; cases h
  · rw [if_neg hkk] at h; cases h
theorem partC {b : Nat → Nat} {S : Nat} (hB : By b S) {k p l : Nat} {m : Mem} (hp : p ≤ S) (hC : CS m b S p 0 l) (hl : l ≤ p) (hk : 10 ≤ k ∧ k < 13) : ∃ ma mb mc, X3_expect (nI k) m = some ma ∧ X3_po 100 0 0 ma = some mb ∧ X3_expect 59 mb = some mc ∧ PC m mc b S 0 l (rdP b k p) := by
  have hS := hB.hS
  have hkl := tK_lt b p
  have hN := tN_le hB hp
  unfold rdP
  have z : (nI (tK b p) = nI k) = (tK b p = k) := n_eq (by omega) (by omega)
  by_cases hkk : tK b p = k
  · rw [if_pos hkk]
    obtain ⟨ma, e1, e2, e3, e4⟩ := CS_adv hB hp hC (by omega)
    have hG := tN_gt hB hp (by omega)
    obtain ⟨mb, g1, g2⟩ := (Qall hB 2000).2.1 0 0 (tN b p) l 100 ma (by decide) hN.2 (by decide) (by omega) e2 (by omega) (by decide)
    have hx : X3_expect (nI k) m = some ma := by
      unfold X3_expect
      rw [hC.2.2.1, if_pos (z.mpr hkk), e1]; rfl
    rcases hr : ps b 2000 0 0 [] (tN b p) with e | ⟨c2, q2⟩
    · rw [hr] at g2
      obtain ⟨mc, i1, i2, i3⟩ := CB_expect g2.2 (c := 59) (by decide)
      exact ⟨ma, mb, mc, hx, g1, i1, PC_l ((e3.tr g2.1).tr i3) i2⟩
    · rw [hr] at g2
      obtain ⟨g3, g4, g5⟩ := g2.2
      obtain ⟨p1, p2, p3, p4⟩ := ps_pr hB _ _ _ _ _ _ _ hN.2 hr
      have p5 := p2 (by decide)
      have hkl2 := tK_lt b q2
      have z2 : (nI (tK b q2) = 59) = (tK b q2 = 59) := n_eq (b := 59) (by omega) (by decide)
      rw [bR_r]
      by_cases h59 : tK b q2 = 59
      · rw [if_pos h59]
        obtain ⟨mc, i1, i2, i3, i4⟩ := CS_adv hB p1 g3 (by omega)
        refine ⟨ma, mb, mc, hx, g1, ?_, PC_r ((e3.tr g2.1).tr i3) i2 (fun i hi => by rw [i4, g4 i hi, e4]) (fun i hi => by rw [i4, g5 i hi])⟩
        unfold X3_expect
        rw [g3.2.2.1, if_pos (z2.mpr h59), i1]; rfl
      · rw [if_neg h59]
        obtain ⟨mc, i1, i2, i3⟩ := CS_fail hB p1 g3 (by omega)
        refine ⟨ma, mb, mc, hx, g1, ?_, PC_l ((e3.tr g2.1).tr i3) i2⟩
        unfold X3_expect
        rw [g3.2.2.1, if_neg (fun h => h59 (z2.mp h)), i1]; rfl
  · rw [if_neg hkk]
    obtain ⟨ma, e1, e2, e3⟩ := CS_fail hB hp hC (by omega)
    obtain ⟨mb, g1, g2, g3⟩ := CB_po 5 0 99 ma (by decide) (by decide) e2
    obtain ⟨mc, i1, i2, i3⟩ := CB_expect g2 (c := 59) (by decide)
    refine ⟨ma, mb, mc, ?_, g1, i1, PC_l ((e3.tr g3).tr i3) i2⟩
    unfold X3_expect
    rw [hC.2.2.1, if_neg (fun h => hkk (z.mp h)), e1]; rfl
theorem partB {f : Nat} {k : Nat} {m : Mem} (h : CB m f) (hk : 10 ≤ k ∧ k < 13) : ∃ ma mb mc, X3_expect (nI k) m = some ma ∧ X3_po 100 0 0 ma = some mb ∧ X3_expect 59 mb = some mc ∧ CB mc f ∧ FrC m mc := by
  obtain ⟨ma, e1, e2, e3⟩ := CB_expect h (c := nI k) (fun q => by have := (nI_eq (b := 1) (by omega) (by decide)).mp q; omega)
  obtain ⟨mb, g1, g2, g3⟩ := CB_po 5 0 99 ma (by decide) (by decide) e2
  obtain ⟨mc, i1, i2, i3⟩ := CB_expect g2 (c := 59) (by decide)
  exact ⟨ma, mb, mc, e1, g1, i1, i2, (e3.tr g3).tr i3⟩
/-- what the class has behind the reading of a text -/
def RdC (m mA : Mem) (r8 r9 : Int32) (R : Nat ⊕ (List Int32 × List Int32 × List Int32)) : Prop :=
  (∀ x j, x ≠ 30 → x ≠ 32 → mA.1 x j = m.1 x j) ∧ mA.2 = m.2 ∧ mA.1 30 1 = 0 ∧ match R with
  | .inl f => f ≤ 160 ∧ mA.1 30 2 = nI f
  | .inr (c1, c2, c3) => mA.1 30 2 = -1 ∧ r8 = nI c1.length ∧ r9 = nI (c1.length + c2.length) ∧ c1.length + c2.length + c3.length < 160 ∧ mA.1 30 9 = nI (c1.length + c2.length + c3.length) ∧ ∀ i, i < c1.length + c2.length + c3.length → mA.1 32 i = (c1 ++ (c2 ++ c3)).getD i 0
theorem read_c {b : Nat → Nat} {S : Nat} (hB : By b S) {m : Mem} (hT : Tp m b S) : ∃ r8 r9 mA, X3_read m = some ((r8, r9), mA) ∧ RdC m mA r8 r9 (rdT b) := by
  have hS := hB.hS
  unfold X3_read
  have T0 : Tp (pI (pI (pI (pI m 30 2 (-1 : Int32)) 30 6 (0 : Int32)) 30 7 (0 : Int32)) 30 9 (0 : Int32)) b S := Tp_pI (Tp_pI (Tp_pI (Tp_pI hT (by decide) _) (by decide) _) (by decide) _) (by decide) _
  have F0 : FrC m (pI (pI (pI (pI m 30 2 (-1 : Int32)) 30 6 (0 : Int32)) 30 7 (0 : Int32)) 30 9 (0 : Int32)) := (((FrC.p30 (by decide) _).tr (FrC.p30 (by decide) _)).tr (FrC.p30 (by decide) _)).tr (FrC.p30 (by decide) _)
  obtain ⟨m0, e1, e2, e3, e4, e5, e6, e7⟩ := adv_c (p := 0) hB (Nat.zero_le _) T0 (by simp [rI]) (by simp [rI]; rfl)
  rw [e1, bv_s]
  have F1 : FrC m m0 := F0.tr ⟨fun x j h1 _ => e7 x j (by omega), e2, e7 30 1 (by omega)⟩
  have C0 : CS m0 b S 0 0 0 := ⟨F1.tp hT, by rw [e7 30 2 (by omega)]; simp [rI], e3, e4, e5, e6, by rw [e7 30 7 (by omega)]; simp [rI]; rfl, by rw [e7 30 9 (by omega)]; simp [rI]; rfl⟩
  have fin : ∀ (mz : Mem) (r8 r9 : Int32) (f : Nat), CB mz f → FrC m mz → RdC m (pI mz 30 1 0) r8 r9 (.inl f) := by
    intro mz r8 r9 f hc hf
    refine ⟨fun x j h1 h2 => by rw [rI, if_neg (by omega)]; exact hf.1 x j h1 h2, hf.2.1, by simp [rI], hc.1, by simp [rI, hc.2.1]⟩
  have finB : ∀ (mz : Mem) (r8 r9 : Int32) (f : Nat), CB mz f → FrC m mz → ∃ mA, (if mz.1 30 3 = 0 then some ((r8, r9), pI mz 30 1 (0 : Int32)) else bv (X3_fail mz) fun m93 => some ((r8, r9), pI m93 30 1 (0 : Int32))) = some ((r8, r9), mA) ∧ RdC m mA r8 r9 (.inl f) := by
    intro mz r8 r9 f hc hf
    obtain ⟨m', g1, g2, g3⟩ := CB_fail hc
    rw [hc.2.2.1, if_neg (by decide), g1, bv_s]
    exact ⟨_, rfl, fin m' r8 r9 f g2 (hf.tr g3)⟩
  unfold rdT
  obtain ⟨a1, a2, a3, x1, x2, x3, x4⟩ := partC (k := 10) hB (Nat.zero_le _) C0 (Nat.le_refl _) (by decide)
  rw [show X3_expect 10 m0 = _ from x1, bv_s, x2, bv_s, x3, bv_s]
  rcases hr1 : rdP b 10 0 with f1 | ⟨c1, p1⟩
  · rw [hr1] at x4
    obtain ⟨b1, b2, b3, y1, y2, y3, y4, y5⟩ := partB (k := 11) x4.2 (by decide)
    rw [show X3_expect 11 a3 = _ from y1, bv_s, y2, bv_s, y3, bv_s]
    obtain ⟨d1, d2, d3, z1, z2, z3, z4, z5⟩ := partB (k := 12) y4 (by decide)
    rw [show X3_expect 12 b3 = _ from z1, bv_s, z2, bv_s, z3, bv_s]
    obtain ⟨mA, g1, g2⟩ := finB d3 (a3.1 30 9) (b3.1 30 9) f1 z4 (((F1.tr x4.1).tr y5).tr z5)
    exact ⟨_, _, mA, g1, g2⟩
  · rw [hr1] at x4
    have q1 := rdP_pr hB (Nat.zero_le _) (by decide) hr1
    obtain ⟨x5, x6, x7⟩ := x4.2
    obtain ⟨b1, b2, b3, y1, y2, y3, y4⟩ := partC (k := 11) hB q1.1 x5 (by omega) (by decide)
    rw [show X3_expect 11 a3 = _ from y1, bv_s, y2, bv_s, y3, bv_s]
    simp only
    rcases hr2 : rdP b 11 p1 with f2 | ⟨c2, p2⟩
    · rw [hr2] at y4
      obtain ⟨d1, d2, d3, z1, z2, z3, z4, z5⟩ := partB (k := 12) y4.2 (by decide)
      rw [show X3_expect 12 b3 = _ from z1, bv_s, z2, bv_s, z3, bv_s]
      obtain ⟨mA, g1, g2⟩ := finB d3 (a3.1 30 9) (b3.1 30 9) f2 z4 (((F1.tr x4.1).tr y4.1).tr z5)
      exact ⟨_, _, mA, g1, g2⟩
    · rw [hr2] at y4
      have q2 := rdP_pr hB q1.1 (by decide) hr2
      obtain ⟨y5, y6, y7⟩ := y4.2
      obtain ⟨d1, d2, d3, z1, z2, z3, z4⟩ := partC (k := 12) hB q2.1 y5 (by omega) (by decide)
      rw [show X3_expect 12 b3 = _ from z1, bv_s, z2, bv_s, z3, bv_s]
      simp only
      rcases hr3 : rdP b 12 p2 with f3 | ⟨c3, p3⟩
      · rw [hr3] at z4
        obtain ⟨mA, g1, g2⟩ := finB d3 (a3.1 30 9) (b3.1 30 9) f3 z4.2 (((F1.tr x4.1).tr y4.1).tr z4.1)
        exact ⟨_, _, mA, g1, g2⟩
      · rw [hr3] at z4
        have q3 := rdP_pr hB q2.1 (by decide) hr3
        obtain ⟨z5, z6, z7⟩ := z4.2
        have hkl := tK_lt b p3
        have zz : (nI (tK b p3) = 0) = (tK b p3 = 0) := n_eq (b := 0) (by omega) (by decide)
        have FF : FrC m d3 := ((F1.tr x4.1).tr y4.1).tr z4.1
        simp only
        by_cases h0 : tK b p3 = 0
        · rw [if_pos h0, z5.2.2.1, if_pos (zz.mpr h0)]
          refine ⟨_, _, _, rfl, fun x j h1 h2 => by rw [rI, if_neg (by omega)]; exact FF.1 x j h1 h2, FF.2.1, by simp [rI], ?_⟩
          refine ⟨by simp [rI, z5.2.1], ?_, ?_, by omega, ?_, ?_⟩
          · rw [x5.2.2.2.2.2.2.2, Nat.zero_add]
          · rw [y5.2.2.2.2.2.2.2, Nat.zero_add]
          · rw [rI, if_neg (by omega), z5.2.2.2.2.2.2.2, Nat.zero_add]
          · intro i hi
            rw [rI, if_neg (by omega), getD_app2, getD_app2]
            by_cases h1 : i < c1.length
            · rw [if_pos h1, z6 i (by omega), y6 i (by omega)]
              have := x7 i h1
              rw [Nat.zero_add] at this; exact this
            · rw [if_neg h1]
              by_cases h2 : i - c1.length < c2.length
              · rw [if_pos h2, z6 i (by omega)]
                have := y7 (i - c1.length) h2
                rw [show 0 + c1.length + (i - c1.length) = i by omega] at this; exact this
              · rw [if_neg h2]
                have := z7 (i - c1.length - c2.length) (by omega)
                rw [show 0 + c1.length + c2.length + (i - c1.length - c2.length) = i by omega] at this; exact this
        · rw [if_neg h0, z5.2.2.1, if_neg (fun h => h0 (zz.mp h))]
          obtain ⟨m', g1, g2, g3⟩ := CS_fail hB q3.1 z5 (by omega)
          rw [g1, bv_s]
          exact ⟨_, _, _, rfl, fin m' _ _ _ g2 (FF.tr g3)⟩
