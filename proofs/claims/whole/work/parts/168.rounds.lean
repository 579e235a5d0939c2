/-! rounds behind one without a deal -/
def rdA (cd : Nat → Cd) (r : Nat → Nat) (bu : Nat) (G : Fo) : Nat → Nat × Fo
  | 0 => (0, G)
  | i + 1 => ((rdA cd r bu G i).1 + (passA cd r bu (rdA cd r bu G i).2).1, (passA cd r bu (rdA cd r bu G i).2).2)
def Rq (G G' : Fo) : Prop := ∀ j p, ¬ (j = 0 ∧ p = 1) → G' j p = G j p
theorem Rq_r (G : Fo) : Rq G G := fun _ _ _ => rfl
theorem Rq_t {G H K : Fo} (h : Rq G H) (g : Rq H K) : Rq G K := fun j p a => (g j p a).trans (h j p a)
theorem Rq_n (G : Fo) : Rq G (rnd G) := fun j p h => by unfold rnd; rw [if_neg h]
section
variable {cd : Nat → Cd} {r : Nat → Nat} {nt ve f a b t bu R N : Nat} {z : Nat → Nat} {m : Mem} {G G' : Fo} {s : Nat × Fo}
theorem rdA_i (hG : GO nt R G) : ∀ i, GO nt (R + i) (rdA cd r bu G i).2 ∧ (rdA cd r bu G i).1 ≤ 36 * i ∧ (rdA cd r bu G i).2 0 1 = G 0 1 + i ∧ (∀ j p, j ≠ 4 → j ≠ 6 → ¬ (j = 0 ∧ p = 1) → (rdA cd r bu G i).2 j p = G j p) := by
  intro i
  induction i with
  | zero => exact ⟨hG, Nat.le_refl _, rfl, fun _ _ _ _ _ => rfl⟩
  | succ i ih =>
    obtain ⟨i1, i2, i3, i4⟩ := ih
    obtain ⟨j1, j2, j3, j4⟩ := passA_i (cd := cd) (r := r) (bu := bu) i1
    refine ⟨j1, ?_, ?_, fun j p h1 h2 h3 => ?_⟩
    · rw [rdA]; omega
    · show (passA cd r bu (rdA cd r bu G i).2).2 0 1 = _; omega
    · rw [rdA]; exact (j4 j p h1 h2 h3).trans (i4 j p h1 h2 h3)
theorem saG_q (h : Rq G G') (h0 : fO (cd (G 0 2)) = 0) (p w t : Nat) : saG cd r G' p w t = saG cd r G p w t := by
  unfold saG
  rw [h 0 2 (by omega), h 3 p (by omega), h 2 p (by omega), h 4 p (by omega)]
  apply sayP_cong
  · intro _; rfl
  · intro q
    unfold fO at h0
    rw [if_pos q] at h0
    exact absurd h0 (by decide)
theorem takA_q (h : Rq G G') (h0 : fO (cd (G 0 2)) = 0) (p t : Nat) : takA cd r G' p t = takA cd r G p t := by
  unfold takA
  rw [h 1 p (by omega), h 2 p (by omega), h 3 p (by omega), h 5 p (by omega), saG_q h h0]
theorem worA_q (h : Rq G G') (h0 : fO (cd (G 0 2)) = 0) (p t : Nat) : worA cd r G' p t = worA cd r G p t := by
  unfold worA saN
  rw [h 1 p (by omega), h 2 p (by omega), saG_q h h0]
theorem kn_q (h : Rq G G') (p t : Nat) : kn G' p t = kn G p t := by
  unfold kn
  rw [h 4 p (by omega)]
theorem payL_q (h : Rq G G') (h0 : fO (cd (G 0 2)) = 0) (a b : Nat) : ∀ p, payL cd r G' a b p = payL cd r G a b p := by
  intro p
  induction p with
  | zero => rfl
  | succ p ih =>
    rw [payL, payL, payS, payS, ih, kn_q h, kn_q h, takA_q h h0, worA_q h h0]
theorem cP_q (h : Rq G G') (h0 : fO (cd (G 0 2)) = 0) (a b : Nat) : cP cd r G' a b = cP cd r G a b := by
  unfold cP payB frA
  rw [h 1 b (by omega), h 2 b (by omega), payL_q h h0]
theorem asP_q (h : Rq G G') (a b : Nat) : asP G' a b = asP G a b := by
  funext t
  unfold asP
  rw [h 5 a (by omega), kn_q h, kn_q h]
theorem meet_q (h : Rq G G') (h0 : fO (cd (G 0 2)) = 0) (hz : (meetA cd r G a b).1 = 0) : meetA cd r G' a b = (0, G') := by
  unfold meetA mtL at hz ⊢
  rw [cP_q h h0, asP_q h]
  by_cases q : ftQ (asP G a b) 8 = 9 ∨ cP cd r G a b = 9
  · rw [if_pos q]
  · rw [if_neg q] at hz
    exact absurd (show 1 = 0 from hz) (by decide)
theorem meet_0 (hz : (meetA cd r G a b).1 = 0) : (meetA cd r G a b).2 = G := (mtL_1 _).2 hz
theorem psR_z : ∀ b, (psR cd r bu a s b).1 = 0 → s.1 = 0 ∧ (psR cd r bu a s b).2 = s.2 ∧ ∀ b', b' < b → (a = b' ∨ a = bu ∨ b' = bu) ∨ (meetA cd r s.2 a b').1 = 0 := by
  intro b
  induction b with
  | zero => intro h; exact ⟨h, rfl, fun b' hb' => by omega⟩
  | succ b ih =>
    intro h
    rw [psR, psB] at h ⊢
    by_cases q : a = b ∨ a = bu ∨ b = bu
    · rw [if_pos q] at h ⊢
      obtain ⟨h1, h2, h3⟩ := ih h
      refine ⟨h1, h2, fun b' hb' => ?_⟩
      by_cases y : b' = b
      · subst y; exact .inl q
      · exact h3 b' (by omega)
    · rw [if_neg q] at h ⊢
      have h' : (psR cd r bu a s b).1 + (meetA cd r (psR cd r bu a s b).2 a b).1 = 0 := h
      obtain ⟨h1, h2, h3⟩ := ih (by omega)
      have h4 : (meetA cd r (psR cd r bu a s b).2 a b).1 = 0 := by omega
      refine ⟨h1, ?_, fun b' hb' => ?_⟩
      · show (meetA cd r (psR cd r bu a s b).2 a b).2 = s.2
        rw [meet_0 h4, h2]
      · by_cases y : b' = b
        · subst y; rw [h2] at h4; exact .inr h4
        · exact h3 b' (by omega)
theorem psA_z : ∀ a, (psA cd r bu G N a).1 = 0 → (psA cd r bu G N a).2 = G ∧ ∀ a' b', a' < a → b' < N → (a' = b' ∨ a' = bu ∨ b' = bu) ∨ (meetA cd r G a' b').1 = 0 := by
  intro a
  induction a with
  | zero => intro _; exact ⟨rfl, fun a' b' h => by omega⟩
  | succ a ih =>
    intro h
    rw [psA] at h ⊢
    obtain ⟨h1, h2, h3⟩ := psR_z N h
    obtain ⟨i1, i2⟩ := ih h1
    refine ⟨by rw [h2, i1], fun a' b' ha hb => ?_⟩
    by_cases y : a' = a
    · subst y; have := h3 b' hb; rw [i1] at this; exact this
    · exact i2 a' b' (by omega) hb
theorem psR_k (h : ∀ b', b' < N → (a = b' ∨ a = bu ∨ b' = bu) ∨ meetA cd r s.2 a b' = (0, s.2)) : ∀ b, b ≤ N → psR cd r bu a s b = s := by
  intro b
  induction b with
  | zero => intro _; rfl
  | succ b ih =>
    intro hb
    rw [psR, psB, ih (by omega)]
    by_cases q : a = b ∨ a = bu ∨ b = bu
    · rw [if_pos q]
    · rw [if_neg q, (h b (by omega)).resolve_left q]
      rfl
theorem psA_k (h : ∀ a' b', a' < N → b' < N → (a' = b' ∨ a' = bu ∨ b' = bu) ∨ meetA cd r G a' b' = (0, G)) : ∀ a, a ≤ N → psA cd r bu G N a = (0, G) := by
  intro a
  induction a with
  | zero => intro _; rfl
  | succ a ih =>
    intro ha
    rw [psA, ih (by omega)]
    exact psR_k (s := (0, G)) (fun b' hb' => h a b' (by omega) hb') N (Nat.le_refl _)
theorem pass_0 (hz : (passA cd r bu G).1 = 0) : (passA cd r bu G).2 = rnd G := by
  show rnd (psA cd r bu G (G 0 0) (G 0 0)).2 = rnd G
  rw [(psA_z (G 0 0) hz).1]
theorem pass_q (h : Rq G G') (h0 : fO (cd (G 0 2)) = 0) (hz : (passA cd r bu G).1 = 0) : passA cd r bu G' = (0, rnd G') := by
  have h1 := (psA_z (G 0 0) hz).2
  unfold passA
  rw [h 0 0 (by omega), psA_k (fun a' b' ha hb => ?_) (G 0 0) (Nat.le_refl _)]
  rcases h1 a' b' ha hb with q | q
  · exact .inl q
  · exact .inr (meet_q h h0 q)
theorem rest_l {i : Nat} (hG : GO nt R G) (h0 : fO (cd (G 0 2)) = 0) (hz : (passA cd r bu (rdA cd r bu G i).2).1 = 0) : ∀ k, (rdA cd r bu G (i + 1 + k)).1 = (rdA cd r bu G (i + 1)).1 ∧ Rq (rdA cd r bu G (i + 1)).2 (rdA cd r bu G (i + 1 + k)).2 := by
  have hr : (rdA cd r bu G i).2 0 2 = G 0 2 := (rdA_i (cd := cd) (r := r) (bu := bu) hG i).2.2.2 0 2 (by decide) (by decide) (by omega)
  have e1 : (rdA cd r bu G (i + 1)).2 = rnd (rdA cd r bu G i).2 := by rw [rdA]; exact pass_0 hz
  intro k
  induction k with
  | zero => exact ⟨rfl, Rq_r _⟩
  | succ k ih =>
    obtain ⟨i1, i2⟩ := ih
    have hq : Rq (rdA cd r bu G i).2 (rdA cd r bu G (i + 1 + k)).2 := Rq_t (by rw [e1]; exact Rq_n _) i2
    have hp := pass_q hq (by rw [hr]; exact h0) hz
    rw [show i + 1 + (k + 1) = i + 1 + k + 1 from rfl, rdA, hp]
    exact ⟨i1, Rq_t i2 (Rq_n _)⟩
theorem rds_c {k : Nat} (hf : isFo f) (hG : GO nt R G) (hk : k ≤ 20) (hRk : R + k ≤ 1019) (hbu : bu ≤ 9) : ∀ n i m, i ≤ k → k - i < n → CE cd r nt z ve m → RF f m (rdA cd r bu G i).2 → ∃ m' i', X2_rounds_6 nt z f n (nI k) (nbI bu) (nI (rdA cd r bu G i).1) (nI i) m = some (nI (rdA cd r bu G k).1, m') ∧ CE cd r nt z ve m' ∧ RF f m' (rdA cd r bu G i').2 ∧ Rq (rdA cd r bu G i').2 (rdA cd r bu G k).2 ∧ FrM f m m' ∧ i ≤ i' ∧ i' ≤ k ∧ (i < k → i < i') := by
  intro n
  induction n with
  | zero => intro i m _ h; omega
  | succ n ih =>
    intro i m hi hn hE hR
    rw [X2_rounds_6]
    by_cases h8 : i = k
    · subst h8
      simp (disch := omega) only [leT, leF, ltT, ltF, eqT, eqF, inT, n_cl, nI_add, pk_mul, n_div, pk_sub, md8, md2, or_true, true_or, or_false, false_or, Bool.true_eq_false, Bool.false_eq_true, L0, L1, L2, L3, L4, L5, L6, L7, L8, L9, L10, L20, L31, L40, L64, L99, L100, L255, L256, L999, L1000, L99999, ↓reduceIte]
      exact ⟨m, i, rfl, hE, hR, Rq_r _, FrM_r m, by omega, by omega, by omega⟩
    · obtain ⟨i1, i2, i3, i4⟩ := rdA_i (cd := cd) (r := r) (bu := bu) hG i
      have hr : (rdA cd r bu G i).2 0 2 = G 0 2 := i4 0 2 (by decide) (by decide) (by omega)
      have i1' : GO nt 1019 (rdA cd r bu G i).2 := ⟨i1.1, by have := i1.2.1; omega, i1.2.2⟩
      obtain ⟨m1, a1, a2, a3, a4⟩ := pass_c (cd := cd) (r := r) (z := z) (ve := ve) (X2_rounds_6 nt z f n) (v2 := nI k) (v5 := i) (c0 := (rdA cd r bu G i).1) (by omega) hf i1' hbu 10000 0 m (Nat.zero_le _) (by have := i1.1; omega) hE hR
      rw [hr] at a1
      simp (disch := omega) only [leT, leF, ltT, ltF, eqT, eqF, inT, n_cl, nI_add, pk_mul, n_div, pk_sub, md8, md2, or_true, true_or, or_false, false_or, Bool.true_eq_false, Bool.false_eq_true, L0, L1, L2, L3, L4, L5, L6, L7, L8, L9, L10, L20, L31, L40, L64, L99, L100, L255, L256, L999, L1000, L99999, ↓reduceIte]
      rw [show (psA cd r bu (rdA cd r bu G i).2 ((rdA cd r bu G i).2 0 0) 0).1 = 0 from rfl, Nat.add_zero] at a1
      rw [a1]
      by_cases q : (passA cd r bu (rdA cd r bu G i).2).1 = 0 ∧ fO (cd (G 0 2)) = 0
      · rw [if_pos q]
        obtain ⟨t1, t2⟩ := rest_l hG q.2 q.1 (k - (i + 1))
        rw [show i + 1 + (k - (i + 1)) = k by omega] at t1 t2
        have e : (rdA cd r bu G (i + 1)).1 = (rdA cd r bu G i).1 := by rw [rdA, q.1]; rfl
        exact ⟨m1, i + 1, by rw [t1, e], a2, a3, t2, a4, by omega, by omega, by omega⟩
      · rw [if_neg q]
        obtain ⟨m2, i', b1, b2, b3, b4, b5, b6, b7, b8⟩ := ih (i + 1) m1 (by omega) (by omega) a2 a3
        exact ⟨m2, i', b1, b2, b3, b4, FrM_t a4 b5, by omega, b7, by omega⟩
theorem rounds_c {k : Nat} (hE : CE cd r nt z ve m) (hR : RF f m G) (hf : isFo f) (hG : GO nt R G) (hk : k ≤ 20) (hRk : R + k ≤ 1019) (hbu : bu ≤ 9) : ∃ m' i', X2_rounds nt z f (nI k) (nbI bu) m = some (nI (rdA cd r bu G k).1, m') ∧ CE cd r nt z ve m' ∧ RF f m' (rdA cd r bu G i').2 ∧ Rq (rdA cd r bu G i').2 (rdA cd r bu G k).2 ∧ FrM f m m' ∧ i' ≤ k ∧ (0 < k → 0 < i') := by
  obtain ⟨m2, i', b1, b2, b3, b4, b5, b6, b7, b8⟩ := rds_c (cd := cd) (r := r) (z := z) (ve := ve) hf hG hk hRk hbu 10000 0 m (by omega) (by omega) hE hR
  exact ⟨m2, i', b1, b2, b3, b4, b5, b7, b8⟩
end
