theorem nmV_lt {b : Nat → Nat} {a : Nat} : ∀ k, k ≤ 4 → (∀ i, i < k → isDg (b (a + i)) = true) → nmV b a k < 10 ^ k := by
  intro k
  induction k with
  | zero => intro _ _; simp [nmV]
  | succ k ih =>
    intro hk h
    have h1 := ih (by omega) (fun i hi => h i (by omega))
    have h2 := (isDg_i _).mp (h k (by omega))
    rw [nmV, Nat.pow_succ]
    omega
theorem takeNumber_84c {b : Nat → Nat} {S : Nat} (hB : By b S) {a e : Nat} (he : e ≤ S) (hl : e - a ≤ 4) (hD : ∀ i, a ≤ i → i < e → isDg (b i) = true) : ∀ (n k : Nat) (m : Mem), Tp m b S → m.1 30 6 = nI e → m.1 30 3 = nI 2 → m.1 30 5 = nI (nmV b a k) → a + k ≤ e → e - (a + k) < n → ∃ m', X3_takeNumber_84 n (nI (a + k)) m = some m' ∧ m'.2 = m.2 ∧ ∀ x j, m'.1 x j = if x = 30 ∧ j = 5 then nI (nmV b a (e - a)) else m.1 x j := by
  have hS := hB.hS
  intro n
  induction n with
  | zero => intro k m _ _ _ _ _ h; omega
  | succ n ih =>
    intro k m hT h6 h3 h5 hk hn
    rw [X3_takeNumber_84, h6, h3]
    simp (disch := omega) only [n_le, lit_n, n_inn, n_cl, if_true]
    by_cases h : e ≤ a + k
    · rw [if_pos h]
      refine ⟨m, rfl, rfl, fun x j => ?_⟩
      have : e - a = k := by omega
      rw [this]
      split
      · rename_i hq; rw [hq.1, hq.2]; exact h5
      · rfl
    · rw [if_neg h, if_pos (by omega), hT.2 (a + k) (by omega), h5]
      have hd := (isDg_i _).mp (hD (a + k) (by omega) (by omega))
      have ee : nI (nmV b a k) * nI 10 + nI (b (a + k)) - nI 48 = nI (nmV b a (k + 1)) := by
        rw [pk_mul, nI_add, n_sub (by omega), nmV]; congr 1; omega
      rw [ee]
      have hT2 : Tp (pI m 30 5 (nI (nmV b a (k + 1)))) b S := ⟨by rw [rI, if_neg (by omega)]; exact hT.1, fun i hi => by rw [rI, if_neg (by omega)]; exact hT.2 i hi⟩
      obtain ⟨m', e1, e2, e3⟩ := ih (k + 1) (pI m 30 5 (nI (nmV b a (k + 1)))) hT2 (by rw [rI, if_neg (by omega)]; exact h6) (by rw [rI, if_neg (by omega)]; exact h3) (by rw [rI, if_pos ⟨rfl, rfl⟩]) (by omega) (by omega)
      refine ⟨m', ?_, e2, fun x j => ?_⟩
      · rw [nI_add]; exact e1
      · rw [e3, rI]; grind
theorem takeNumber_52c {b : Nat → Nat} {S : Nat} {m : Mem} {a e : Nat} (hB : By b S) (hT : Tp m b S) (h4 : m.1 30 4 = nI a) (h6 : m.1 30 6 = nI e) (he : e ≤ S) (ha : a ≤ e) (hD : ∀ i, a ≤ i → i < e → isDg (b i) = true) :
    ∃ m', X3_takeNumber_52 m = some m' ∧ m'.2 = m.2 ∧ (m'.1 30 3 = nI (if e - a ≤ 4 then 2 else 1)) ∧ (e - a ≤ 4 → m'.1 30 5 = nI (nmV b a (e - a))) ∧ ∀ x j, ¬ (x = 30 ∧ (j = 3 ∨ j = 5)) → m'.1 x j = m.1 x j := by
  have hS := hB.hS
  unfold X3_takeNumber_52
  rw [h6, h4, n_sub ha]
  have hT2 : ∀ q, Tp (pI (pI m 30 3 q) 30 5 0) b S := fun q => ⟨by rw [rI, rI, if_neg (by omega), if_neg (by omega)]; exact hT.1, fun i hi => by rw [rI, rI, if_neg (by omega), if_neg (by omega)]; exact hT.2 i hi⟩
  have g4 : ∀ q : Int32, (pI (pI m 30 3 q) 30 5 0).1 30 4 = nI a := fun q => by rw [rI, rI, if_neg (by omega), if_neg (by omega)]; exact h4
  have g6 : ∀ q : Int32, (pI (pI m 30 3 q) 30 5 0).1 30 6 = nI e := fun q => by rw [rI, rI, if_neg (by omega), if_neg (by omega)]; exact h6
  have g3 : ∀ q : Int32, (pI (pI m 30 3 q) 30 5 0).1 30 3 = q := fun q => by rw [rI, rI, if_neg (by omega), if_pos ⟨rfl, rfl⟩]
  by_cases h : e - a ≤ 4
  · rw [if_pos (show nI (e - a) ≤ 4 from (nI_leI (b := 4) (by omega) (by omega)).mpr h)]
    unfold X3_takeNumber_71
    obtain ⟨m', e1, e2, e3⟩ := takeNumber_84c hB he h hD 10000 0 (pI (pI m 30 3 2) 30 5 0) (hT2 2) (g6 2) (g3 2) (by rw [rI, if_pos ⟨rfl, rfl⟩]; rfl) (by omega) (by omega)
    refine ⟨m', ?_, e2, ?_, fun _ => ?_, fun x j hx => ?_⟩
    · rw [g4]; exact e1
    · rw [e3, if_neg (by omega), if_pos h]; exact g3 2
    · rw [e3, if_pos ⟨rfl, rfl⟩]
    · rw [e3, if_neg (by omega), rI, rI, if_neg (by omega), if_neg (by omega)]
  · rw [if_neg (show ¬ nI (e - a) ≤ 4 from fun q => h ((nI_leI (b := 4) (by omega) (by omega)).mp q))]
    unfold X3_takeNumber_71
    rw [g4]
    rw [show (10000 : Nat) = 9999 + 1 from rfl, X3_takeNumber_84, g6, g3]
    rw [if_neg (show ¬ nI e ≤ nI a by rw [n_le (by omega) (by omega)]; omega), if_neg (by decide)]
    refine ⟨_, rfl, rfl, ?_, fun q => absurd q h, fun x j hx => ?_⟩
    · rw [g3, if_neg h]; rfl
    · rw [rI, rI, if_neg (by omega), if_neg (by omega)]
theorem takeNumber_0c {b : Nat → Nat} {S : Nat} (hB : By b S) {e : Nat} (he : e ≤ S) : ∀ (n p : Nat) (m : Mem), Tp m b S → m.1 30 6 = nI p → p ≤ e → Sk isDg b p e → e - p < n → ∃ m', X3_takeNumber_0 n m = X3_takeNumber_52 m' ∧ m'.2 = m.2 ∧ ∀ x j, m'.1 x j = if x = 30 ∧ j = 6 then nI e else m.1 x j := by
  have hS := hB.hS
  intro n
  induction n with
  | zero => intro p m _ _ _ _ h; omega
  | succ n ih =>
    intro p m hT h6 hp hk hn
    rw [X3_takeNumber_0, h6, hT.1]
    rcases Nat.eq_or_lt_of_le hp with hq | hq
    · subst hq
      refine ⟨m, ?_, rfl, fun x j => ?_⟩
      · have hno := hk.no
        rcases Nat.lt_or_ge p S with hs | hs
        · have hb := hB.lo p hs
          have : ¬ (48 ≤ b p ∧ b p ≤ 57) := by rw [← isDg_i]; simp [hno]
          simp (disch := omega) only [n_le, n_inn, n_cl, hT.2 p hs, lit_n, n_lt]
          rw [if_neg (by omega), if_pos (by omega)]
          by_cases h1 : b p < 48
          · rw [if_pos h1]
          · rw [if_neg h1, if_pos (by omega), if_pos (by omega)]
        · rw [if_pos (by rw [n_le (by omega) (by omega)]; exact hs)]
      · split
        · rename_i h; rw [h.1, h.2]; exact h6
        · rfl
    · have hs : p < S := by omega
      have hb := hB.lo p hs
      have hl := (isDg_i (b p)).mp (hk.al p (Nat.le_refl _) hq)
      have hT2 : Tp (pI m 30 6 (nI (p + 1))) b S := ⟨by rw [rI, if_neg (by omega)]; exact hT.1, fun i hi => by rw [rI, if_neg (by omega)]; exact hT.2 i hi⟩
      obtain ⟨m', e1, e2, e3⟩ := ih (p + 1) (pI m 30 6 (nI (p + 1))) hT2 (by rw [rI, if_pos ⟨rfl, rfl⟩]) (by omega) ⟨by omega, fun i h1 h2 => hk.al i (by omega) h2, hk.no⟩ (by omega)
      refine ⟨m', ?_, e2, fun x j => ?_⟩
      · simp (disch := omega) only [n_le, n_inn, n_cl, hT.2 p hs, lit_n, n_lt, nI_add]
        rw [if_neg (by omega), if_pos (by omega), if_neg (by omega), if_pos (by omega), if_neg (by omega)]
        exact e1
      · rw [e3, rI]; grind
theorem advance_9c {b : Nat → Nat} {S : Nat} (hB : By b S) {e : Nat} (he : e ≤ S) : ∀ (n p : Nat) (m : Mem), Tp m b S → m.1 30 6 = nI p → p ≤ e → Sk isWs b p e → e - p < n → ∃ m', X3_advance_9 n m = X3_advance_61 m' ∧ m'.2 = m.2 ∧ ∀ x j, m'.1 x j = if x = 30 ∧ j = 6 then nI e else m.1 x j := by
  have hS := hB.hS
  intro n
  induction n with
  | zero => intro p m _ _ _ _ h; omega
  | succ n ih =>
    intro p m hT h6 hp hk hn
    rw [X3_advance_9, h6, hT.1]
    rcases Nat.eq_or_lt_of_le hp with hq | hq
    · subst hq
      refine ⟨m, ?_, rfl, fun x j => ?_⟩
      · have hno := hk.no
        rcases Nat.lt_or_ge p S with hs | hs
        · have hb := hB.lo p hs
          have : ¬ (b p = 32 ∨ b p = 10) := by rw [← isWs_i]; simp [hno]
          simp (disch := omega) only [n_le, n_inn, n_cl, hT.2 p hs, lit_n, n_eq]
          rw [if_neg (by omega), if_pos (by omega), if_neg (by omega), if_pos (by omega), if_neg (by omega)]
        · rw [if_pos (by rw [n_le (by omega) (by omega)]; exact hs)]
      · split
        · rename_i h; rw [h.1, h.2]; exact h6
        · rfl
    · have hs : p < S := by omega
      have hb := hB.lo p hs
      have hl := (isWs_i (b p)).mp (hk.al p (Nat.le_refl _) hq)
      have hT2 : Tp (pI m 30 6 (nI (p + 1))) b S := ⟨by rw [rI, if_neg (by omega)]; exact hT.1, fun i hi => by rw [rI, if_neg (by omega)]; exact hT.2 i hi⟩
      obtain ⟨m', e1, e2, e3⟩ := ih (p + 1) (pI m 30 6 (nI (p + 1))) hT2 (by rw [rI, if_pos ⟨rfl, rfl⟩]) (by omega) ⟨by omega, fun i h1 h2 => hk.al i (by omega) h2, hk.no⟩ (by omega)
      refine ⟨m', ?_, e2, fun x j => ?_⟩
      · simp (disch := omega) only [n_le, n_inn, n_cl, hT.2 p hs, lit_n, n_eq, X3_advance_48, h6, nI_add]
        rw [if_neg (by omega), if_pos (by omega)]
        by_cases h1 : b p = 32
        · rw [if_pos h1]; exact e1
        · rw [if_neg h1, if_pos (by omega), if_pos (by omega)]; exact e1
      · rw [e3, rI]; grind
