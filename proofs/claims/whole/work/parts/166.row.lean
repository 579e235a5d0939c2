/-! rounds -/
abbrev Fo : Type := Nat → Nat → Nat
def psB (cd : Nat → Cd) (r : Nat → Nat) (bu a : Nat) (s : Nat × Fo) (b : Nat) : Nat × Fo := if a = b ∨ a = bu ∨ b = bu then s else (s.1 + (meetA cd r s.2 a b).1, (meetA cd r s.2 a b).2)
def psR (cd : Nat → Cd) (r : Nat → Nat) (bu a : Nat) (s : Nat × Fo) : Nat → Nat × Fo
  | 0 => s
  | b + 1 => psB cd r bu a (psR cd r bu a s b) b
def psA (cd : Nat → Cd) (r : Nat → Nat) (bu : Nat) (G : Fo) (N : Nat) : Nat → Nat × Fo
  | 0 => (0, G)
  | a + 1 => psR cd r bu a (psA cd r bu G N a) N
def rnd (G : Fo) : Fo := fun j p => if j = 0 ∧ p = 1 then G 0 1 + 1 else G j p
def passA (cd : Nat → Cd) (r : Nat → Nat) (bu : Nat) (G : Fo) : Nat × Fo := ((psA cd r bu G (G 0 0) (G 0 0)).1, rnd (psA cd r bu G (G 0 0) (G 0 0)).2)
theorem Sm_r (G : Fo) : Sm G G := fun _ _ _ _ => rfl
theorem Sm_t {G H K : Fo} (h : Sm G H) (g : Sm H K) : Sm G K := fun j p a b => (g j p a b).trans (h j p a b)
section
variable {cd : Nat → Cd} {r : Nat → Nat} {nt ve f a b t bu R N : Nat} {z : Nat → Nat} {m : Mem} {G : Fo} {s : Nat × Fo}
theorem psB_i (hG : GO nt R s.2) (ha : a < 6) (hb : b < 6) : GO nt R (psB cd r bu a s b).2 ∧ Sm s.2 (psB cd r bu a s b).2 ∧ (psB cd r bu a s b).1 ≤ s.1 + 1 := by
  unfold psB
  split
  · exact ⟨hG, Sm_r _, by omega⟩
  · refine ⟨meet_o hG ha hb, mtL_s _, ?_⟩
    have := (mtL_1 (cd := cd) (r := r) (G := s.2) (a := a) (b := b) (ftQ (asP s.2 a b) 8)).1
    show s.1 + (meetA cd r s.2 a b).1 ≤ s.1 + 1
    unfold meetA
    omega
theorem psR_i (hG : GO nt R s.2) (ha : a < 6) : ∀ b, b ≤ 6 → GO nt R (psR cd r bu a s b).2 ∧ Sm s.2 (psR cd r bu a s b).2 ∧ (psR cd r bu a s b).1 ≤ s.1 + b := by
  intro b
  induction b with
  | zero => intro _; exact ⟨hG, Sm_r _, Nat.le_refl _⟩
  | succ b ih =>
    intro hb
    obtain ⟨i1, i2, i3⟩ := ih (by omega)
    obtain ⟨j1, j2, j3⟩ := psB_i (cd := cd) (r := r) (bu := bu) (a := a) (b := b) i1 ha (by omega)
    exact ⟨j1, Sm_t i2 j2, by rw [psR]; omega⟩
theorem psA_i (hG : GO nt R G) (hN : N ≤ 6) : ∀ a, a ≤ 6 → GO nt R (psA cd r bu G N a).2 ∧ Sm G (psA cd r bu G N a).2 ∧ (psA cd r bu G N a).1 ≤ 6 * a := by
  intro a
  induction a with
  | zero => intro _; exact ⟨hG, Sm_r _, Nat.le_refl _⟩
  | succ a ih =>
    intro ha
    obtain ⟨i1, i2, i3⟩ := ih (by omega)
    obtain ⟨j1, j2, j3⟩ := psR_i (cd := cd) (r := r) (bu := bu) (a := a) i1 (by omega) N hN
    exact ⟨j1, Sm_t i2 j2, by rw [psA]; omega⟩
theorem rnd_o (hG : GO nt R G) : GO nt (R + 1) (rnd G) := by
  obtain ⟨g1, g2, g3, g4⟩ := hG
  refine ⟨g1, ?_, g3, fun p hp => ?_⟩
  · show G 0 1 + 1 ≤ R + 1; omega
  · obtain ⟨p1, p2, p3, p4, p5, p6⟩ := g4 p hp
    unfold rnd
    simp only [show ¬ (1 = 0) by decide, show ¬ (2 = 0) by decide, show ¬ (3 = 0) by decide, show ¬ (4 = 0) by decide, show ¬ (5 = 0) by decide, show ¬ (6 = 0) by decide, false_and, ↓reduceIte]
    exact ⟨p1, p2, p3, p4, p5, p6⟩
theorem passA_i (hG : GO nt R G) : GO nt (R + 1) (passA cd r bu G).2 ∧ (passA cd r bu G).1 ≤ 36 ∧ (passA cd r bu G).2 0 1 = G 0 1 + 1 ∧ (∀ j p, j ≠ 4 → j ≠ 6 → ¬ (j = 0 ∧ p = 1) → (passA cd r bu G).2 j p = G j p) := by
  have g0 := hG.1
  obtain ⟨i1, i2, i3⟩ := psA_i (cd := cd) (r := r) (bu := bu) (N := G 0 0) hG g0 (G 0 0) g0
  refine ⟨rnd_o i1, by show (psA cd r bu G (G 0 0) (G 0 0)).1 ≤ 36; omega, ?_, fun j p h1 h2 h3 => ?_⟩
  · show (psA cd r bu G (G 0 0) (G 0 0)).2 0 1 + 1 = _
    rw [i2 0 1 (by decide) (by decide)]
  · show rnd _ j p = _
    unfold rnd
    rw [if_neg h3, i2 j p h1 h2]
theorem nbI_q {a bu : Nat} (ha : a < 6) (hb : bu ≤ 9) : (nI a = nbI bu) = (a = bu) := by
  by_cases h : bu = 9
  · subst h
    apply propext
    refine ⟨fun q => ?_, fun q => by omega⟩
    have := (nbI_e (b := a) (by omega)).mp (by unfold nbI; rw [if_neg (by omega)]; exact q)
    exact this
  · unfold nbI
    rw [if_neg h, n_eq (by omega) (by omega)]
theorem row_c (k6 : Int32 → Int32 → Int32 → Int32 → Mem → Option (Int32 × Mem)) (k19 : Int32 → Int32 → Int32 → Int32 → Int32 → Int32 → Mem → Option (Int32 × Mem)) {v2 v5 v6 : Int32} {c0 : Nat} (hf : isFo f) (hG : GO nt 1019 s.2) (hN : s.2 0 0 = N) (ha : a < N) (hbu : bu ≤ 9) :
    ∀ n b m, b ≤ N → N - b < n → CE cd r nt z ve m → RF f m (psR cd r bu a s b).2 → ∃ m', X2_rounds_31 nt z f k6 k19 n v2 (nbI bu) (nI (c0 + (psR cd r bu a s b).1)) v5 v6 (nI a) (nI b) m = k19 v2 (nbI bu) (nI (c0 + (psR cd r bu a s N).1)) v5 v6 (nI (a + 1)) m' ∧ CE cd r nt z ve m' ∧ RF f m' (psR cd r bu a s N).2 ∧ FrM f m m' := by
  have g0 : N ≤ 6 := by rw [← hN]; exact hG.1
  intro n
  induction n with
  | zero => intro b m _ h; omega
  | succ n ih =>
    intro b m hb hn hE hR
    rw [X2_rounds_31]
    obtain ⟨i1, i2, i3⟩ := psR_i (cd := cd) (r := r) (bu := bu) (a := a) hG (by omega) b (by omega)
    have s0 := hR.1 0 (by decide)
    rw [i2 0 0 (by decide) (by decide), hN] at s0
    by_cases h8 : b = N
    · subst h8
      simp (disch := omega) only [leT, leF, ltT, ltF, eqT, eqF, inT, n_cl, nI_add, pk_mul, n_div, pk_sub, md8, md2, or_true, true_or, or_false, false_or, Bool.true_eq_false, Bool.false_eq_true, L0, L1, L2, L3, L4, L5, L6, L7, L8, L9, L10, L20, L31, L40, L64, L99, L100, L255, L256, L999, L1000, L99999, ↓reduceIte, s0]
      exact ⟨m, rfl, hE, hR, FrM_r m⟩
    · have hb6 : b < 6 := by omega
      by_cases sk : a = b ∨ a = bu ∨ b = bu
      · have e : psR cd r bu a s (b + 1) = psR cd r bu a s b := by rw [psR, psB, if_pos sk]
        have := ih (b + 1) m (by omega) (by omega) hE (by rw [e]; exact hR)
        rw [e] at this
        rcases Classical.em (a = b) with k1 | k1
        · simp (disch := omega) only [leT, leF, ltT, ltF, eqT, eqF, inT, n_cl, nI_add, pk_mul, n_div, pk_sub, md8, md2, or_true, true_or, or_false, false_or, Bool.true_eq_false, Bool.false_eq_true, L0, L1, L2, L3, L4, L5, L6, L7, L8, L9, L10, L20, L31, L40, L64, L99, L100, L255, L256, L999, L1000, L99999, ↓reduceIte, X2_rounds_121, s0]
          exact this
        · rcases Classical.em (a = bu) with k2 | k2
          · have w2 : (nI a = nbI bu) = True := eq_true ((nbI_q (by omega) hbu).mpr k2)
            simp (disch := omega) only [leT, leF, ltT, ltF, eqT, eqF, inT, n_cl, nI_add, pk_mul, n_div, pk_sub, md8, md2, or_true, true_or, or_false, false_or, Bool.true_eq_false, Bool.false_eq_true, L0, L1, L2, L3, L4, L5, L6, L7, L8, L9, L10, L20, L31, L40, L64, L99, L100, L255, L256, L999, L1000, L99999, ↓reduceIte, X2_rounds_121, s0, w2]
            exact this
          · have w3 : (nI b = nbI bu) = True := eq_true ((nbI_q hb6 hbu).mpr (by omega))
            simp (disch := omega) only [leT, leF, ltT, ltF, eqT, eqF, inT, n_cl, nI_add, pk_mul, n_div, pk_sub, md8, md2, or_true, true_or, or_false, false_or, Bool.true_eq_false, Bool.false_eq_true, L0, L1, L2, L3, L4, L5, L6, L7, L8, L9, L10, L20, L31, L40, L64, L99, L100, L255, L256, L999, L1000, L99999, ↓reduceIte, X2_rounds_121, s0, nbI_q (show a < 6 by omega) hbu, w3, k2]
            exact this
      · have e : psR cd r bu a s (b + 1) = ((psR cd r bu a s b).1 + (meetA cd r (psR cd r bu a s b).2 a b).1, (meetA cd r (psR cd r bu a s b).2 a b).2) := by rw [psR, psB, if_neg sk]
        have k1 : ¬ a = b := by omega
        have k2 : ¬ a = bu := by omega
        have k3 : ¬ b = bu := by omega
        have fa := first_c hR (show a < 6 by omega) hb6
        generalize hS : psR cd r bu a s b = S at *
        have fi := ftQ_is (asP S.2 a b) 8 (by decide)
        have hE9 := nbI_e (b := ftQ (asP S.2 a b) 8) (by omega)
        by_cases q : ftQ (asP S.2 a b) 8 = 9
        · have em : meetA cd r S.2 a b = (0, S.2) := by unfold meetA mtL; rw [if_pos (.inl q)]
          rw [em] at e
          have := ih (b + 1) m (by omega) (by omega) hE (by rw [e]; exact hR)
          rw [e] at this
          rw [q] at fa hE9
          have hE9' : (nbI 9 = -nI 1) = True := eq_true rfl
          simp (disch := omega) only [leT, leF, ltT, ltF, eqT, eqF, inT, n_cl, nI_add, pk_mul, n_div, pk_sub, md8, md2, or_true, true_or, or_false, false_or, Bool.true_eq_false, Bool.false_eq_true, L0, L1, L2, L3, L4, L5, L6, L7, L8, L9, L10, L20, L31, L40, L64, L99, L100, L255, L256, L999, L1000, L99999, ↓reduceIte, X2_rounds_121, X2_rounds_94, s0, nbI_q (show a < 6 by omega) hbu, nbI_q hb6 hbu, k2, k3, fa, bi, hE9']
          exact this
        · have hnb : nbI (ftQ (asP S.2 a b) 8) = nI (ftQ (asP S.2 a b) 8) := by unfold nbI; rw [if_neg q]
          have fq : asP S.2 a b (ftQ (asP S.2 a b) 8) = true := (fi.resolve_left q).2
          have fl : ftQ (asP S.2 a b) 8 < 8 := by omega
          obtain ⟨m1, a1, a2, a3⟩ := pay_c (t := ftQ (asP S.2 a b) 8) hE hR i1 hf (show a < 6 by omega) hb6
          have R1 := FrX_f hf a3 hR
          have hpa := payA_c (cd := cd) (r := r) (G := S.2) (a := a) (b := b) (t := ftQ (asP S.2 a b) 8)
          rw [if_pos (by unfold asP at fq; simp only [Bool.and_eq_true] at fq ⊢; exact fq.2)] at hpa
          have cl := cP_le (cd := cd) (r := r) (b := b) (i1.2.2.2 a (by omega)).2.1
          rw [hpa] at a1
          rw [hnb] at fa hE9 
          by_cases q2 : cP cd r S.2 a b = 9
          · have em : meetA cd r S.2 a b = (0, S.2) := by unfold meetA mtL; rw [if_pos (.inr q2)]
            rw [em] at e
            obtain ⟨m2, b1, b2, b3, b4⟩ := ih (b + 1) m1 (by omega) (by omega) a2 (by rw [e]; exact R1)
            rw [e] at b1
            have hE8 := nbI_e (b := cP cd r S.2 a b) (by omega)
            simp (disch := omega) only [leT, leF, ltT, ltF, eqT, eqF, inT, n_cl, nI_add, pk_mul, n_div, pk_sub, md8, md2, or_true, true_or, or_false, false_or, Bool.true_eq_false, Bool.false_eq_true, L0, L1, L2, L3, L4, L5, L6, L7, L8, L9, L10, L20, L31, L40, L64, L99, L100, L255, L256, L999, L1000, L99999, ↓reduceIte, X2_rounds_121, X2_rounds_94, s0, nbI_q (show a < 6 by omega) hbu, nbI_q hb6 hbu, k2, k3, fa, bi, hE9, q, a1, hE8, q2]
            exact ⟨m2, b1, b2, b3, FrM_t (FrM_x a3) b4⟩
          · have em : meetA cd r S.2 a b = (1, dealA cd r S.2 a b (ftQ (asP S.2 a b) 8) (cP cd r S.2 a b)) := by unfold meetA mtL; rw [if_neg (by omega)]
            rw [em] at e
            obtain ⟨m2, d1, d2, d3, d4⟩ := deal_c (t := ftQ (asP S.2 a b) 8) (pay := cP cd r S.2 a b) a2 R1 i1 hf (show a < 6 by omega) hb6 k1 fl (by omega)
            obtain ⟨m3, b1, b2, b3, b4⟩ := ih (b + 1) m2 (by omega) (by omega) d2 (by rw [e]; exact d3)
            rw [e] at b1
            have hE8 := nbI_e (b := cP cd r S.2 a b) (by omega)
            have hnc : nbI (cP cd r S.2 a b) = nI (cP cd r S.2 a b) := by unfold nbI; rw [if_neg q2]
            rw [hnc] at a1 hE8
            simp (disch := omega) only [leT, leF, ltT, ltF, eqT, eqF, inT, n_cl, nI_add, pk_mul, n_div, pk_sub, md8, md2, or_true, true_or, or_false, false_or, Bool.true_eq_false, Bool.false_eq_true, L0, L1, L2, L3, L4, L5, L6, L7, L8, L9, L10, L20, L31, L40, L64, L99, L100, L255, L256, L999, L1000, L99999, ↓reduceIte, X2_rounds_121, X2_rounds_94, s0, nbI_q (show a < 6 by omega) hbu, nbI_q hb6 hbu, k2, k3, fa, bi, hE9, q, a1, hE8, q2, d1, bv, Nat.add_assoc]
            exact ⟨m3, b1, b2, b3, FrM_t (FrM_x a3) (FrM_t d4 b4)⟩
end
