def okS : Nat → List (List Nat) → Prop
  | s, [] => s = 63
  | s, w :: ws => (∀ j, j < w.length → chr (s + j) = w.getD j 0 ∧ chr (s + j) ≠ 32) ∧ chr (s + w.length) = 32 ∧ s + w.length < 63 ∧ w.length < 10 ∧ okS (s + w.length + 1) ws
theorem okS_w : okS 0 wds := by
  unfold wds
  simp only [okS]
  refine ⟨?_, ?_, ?_, ?_, ?_, ?_, ?_, ?_, ?_, ?_, ?_, ?_, ?_, ?_, ?_, ?_, ?_, ?_, ?_, ?_, ?_, ?_, ?_, ?_, ?_, ?_, ?_, ?_, ?_, ?_, ?_, ?_, ?_, ?_, ?_, ?_, ?_, ?_, ?_, ?_, ?_, ?_, ?_, ?_, ?_, ?_, ?_, ?_, ?_⟩ <;> decide +kernel
theorem tw_l {b : Nat → Nat} {S : Nat} {m : Mem} {a e : Nat} (hB : By b S) (hT : Tp m b S) (h3 : m.1 30 3 = 1) (h4 : m.1 30 4 = nI a) (h6 : m.1 30 6 = nI e) (he : e ≤ S) (ha : a ≤ S) : ∀ (ws : List (List Nat)) (s n i : Nat), okS s ws → i + ws.length ≤ 20 → 63 - s < n → s ≤ 63 →
    ∃ m', X3_takeWord_69 n (nI i) (nI a) 1 (nI s) m = some m' ∧ m'.2 = m.2 ∧ (m'.1 30 3 = if wnoL b e a ws < ws.length then (if 6 ≤ i + wnoL b e a ws then 3 else nI (10 + (i + wnoL b e a ws))) else 1) ∧ (wnoL b e a ws < ws.length → m'.1 30 5 = nI (i + wnoL b e a ws) - 6) ∧ ∀ x j, ¬ (x = 30 ∧ (j = 3 ∨ j = 5)) → m'.1 x j = m.1 x j := by
  have hS := hB.hS
  intro ws
  induction ws with
  | nil =>
    intro s n i hs hi hn _
    obtain ⟨k, rfl⟩ : ∃ k, n = k + 1 := ⟨n - 1, by omega⟩
    simp only [okS] at hs
    subst hs
    rw [X3_takeWord_69, len_e, bi_s, if_pos (show nI 63 ≤ nI 63 by decide)]
    refine ⟨m, rfl, rfl, ?_, fun h => absurd h (by simp [wnoL]), fun _ _ _ => rfl⟩
    rw [if_neg (by simp [wnoL])]; exact h3
  | cons w ws ih =>
    intro s n i hs hi hn hs63
    simp only [okS] at hs
    obtain ⟨o1, o2, o3, o5, o4⟩ := hs
    simp only [List.length_cons] at hi ⊢
    obtain ⟨k, rfl⟩ : ∃ k, n = k + 1 + w.length := ⟨n - 1 - w.length, by omega⟩
    have t := tw_w hB hT h3 h4 h6 he w s k i a true o1 o2 o3 (by omega) (by omega)
    simp only [if_true, Bool.true_and] at t
    rw [t]
    by_cases hw : wm b e w a = true
    · rw [if_pos hw]
      simp only [wnoL, hw, if_true]
      obtain ⟨k', rfl⟩ : ∃ k', k = k' + 1 := ⟨k - 1, by omega⟩
      unfold X3_takeWord_165 X3_takeWord_176 X3_takeWord_186
      rw [X3_takeWord_69, len_e, bi_s]
      have h10 : (10 : Int32) + nI i = nI (10 + i) := nI_add 10 i
      refine ⟨pI (pI m 30 3 (if 6 ≤ i then 3 else 10 + nI i)) 30 5 (nI i - 6), ?_, rfl, ?_, fun _ => ?_, fun x j hx => ?_⟩
      · have hq : ¬ (if 6 ≤ i then 3 else 10 + nI i : Int32) = 1 := by
          split
          · decide
          · rw [h10]; show ¬ nI (10 + i) = nI 1; rw [n_eq (by omega) (by omega)]; omega
        split
        · rfl
        · rw [if_neg]
          rw [rI, rI, if_neg (by omega), if_pos ⟨rfl, rfl⟩]
          exact hq
      · rw [rI, rI, if_neg (by omega), if_pos ⟨rfl, rfl⟩, if_pos (show 0 < ws.length + 1 by omega)]
        simp only [Nat.add_zero, h10]
      · rw [rI, if_pos ⟨rfl, rfl⟩, Nat.add_zero]
      · rw [rI, rI]; rw [if_neg (by omega), if_neg (by omega)]
    · rw [if_neg hw]
      obtain ⟨m', e1, e2, e3, e4, e5⟩ := ih (s + w.length + 1) k (i + 1) o4 (by omega) (by omega) (by omega)
      have hw2 : wm b e w a = false := by simpa using hw
      simp only [wnoL, hw2, Bool.false_eq_true, if_false]
      refine ⟨m', e1, e2, ?_, ?_, e5⟩
      · rw [e3]
        simp only [show i + (wnoL b e a ws + 1) = i + 1 + wnoL b e a ws by omega, Nat.add_lt_add_iff_right]
      · rw [show i + (wnoL b e a ws + 1) = i + 1 + wnoL b e a ws by omega]
        intro h; exact e4 (by omega)
theorem takeWord_52c {b : Nat → Nat} {S : Nat} {m : Mem} {a e : Nat} (hB : By b S) (hT : Tp m b S) (h4 : m.1 30 4 = nI a) (h6 : m.1 30 6 = nI e) (he : e ≤ S) (ha : a ≤ S) :
    ∃ m', X3_takeWord_52 m = some m' ∧ m'.2 = m.2 ∧ (m'.1 30 3 = nI (if wno b e a < 6 then 10 + wno b e a else if wno b e a < 12 then 3 else 1)) ∧ (6 ≤ wno b e a → wno b e a < 12 → m'.1 30 5 = nI (wno b e a - 6)) ∧ ∀ x j, ¬ (x = 30 ∧ (j = 3 ∨ j = 5)) → m'.1 x j = m.1 x j := by
  have hT2 : Tp (pI m 30 3 1) b S := ⟨by rw [rI, if_neg (by omega)]; exact hT.1, fun i hi => by rw [rI, if_neg (by omega)]; exact hT.2 i hi⟩
  obtain ⟨m', e1, e2, e3, e4, e5⟩ := tw_l hB hT2 (by rw [rI, if_pos ⟨rfl, rfl⟩]) (by rw [rI, if_neg (by omega)]; exact h4) (by rw [rI, if_neg (by omega)]; exact h6) he ha wds 0 10000 0 okS_w (by decide) (by decide) (by decide)
  refine ⟨m', ?_, e2, ?_, fun g1 g2 => ?_, fun x j hx => ?_⟩
  · unfold X3_takeWord_52
    rw [rI, if_neg (by omega), h4]; exact e1
  · rw [e3]
    have hl : wds.length = 12 := rfl
    rw [hl]
    show _ = nI (if wnoL b e a wds < 6 then 10 + wnoL b e a wds else if wnoL b e a wds < 12 then 3 else 1)
    simp only [Nat.zero_add]
    generalize wnoL b e a wds = q
    by_cases h12 : q < 12
    · by_cases h6 : 6 ≤ q
      · have h7 : ¬ q < 6 := by omega
        simp only [h12, h6, h7, if_true, if_false]; rfl
      · have h7 : q < 6 := by omega
        simp only [h12, h6, h7, if_true, if_false]
    · have h7 : ¬ q < 6 := by omega
      simp only [h12, h7, if_false]; rfl
  · rw [e4 g2, Nat.zero_add]
    show nI (wno b e a) - nI 6 = _
    exact n_sub g1
  · rw [e5 x j hx, rI, if_neg (by omega)]
theorem takeWord_0c {b : Nat → Nat} {S : Nat} (hB : By b S) {e : Nat} (he : e ≤ S) : ∀ (n p : Nat) (m : Mem), Tp m b S → m.1 30 6 = nI p → p ≤ e → Sk isLt b p e → e - p < n → ∃ m', X3_takeWord_0 n m = X3_takeWord_52 m' ∧ m'.2 = m.2 ∧ ∀ x j, m'.1 x j = if x = 30 ∧ j = 6 then nI e else m.1 x j := by
  have hS := hB.hS
  intro n
  induction n with
  | zero => intro p m _ _ _ _ h; omega
  | succ n ih =>
    intro p m hT h6 hp hk hn
    rw [X3_takeWord_0, h6, hT.1]
    rcases Nat.eq_or_lt_of_le hp with hq | hq
    · subst hq
      refine ⟨m, ?_, rfl, fun x j => ?_⟩
      · have hno := hk.no
        rcases Nat.lt_or_ge p S with hs | hs
        · have hb := hB.lo p hs
          have : ¬ (97 ≤ b p ∧ b p ≤ 122) := by rw [← isLt_i]; simp [hno]
          simp (disch := omega) only [n_le, n_inn, n_cl, hT.2 p hs, lit_n, n_lt]
          rw [if_neg (by omega), if_pos (by omega)]
          by_cases h1 : b p < 97
          · rw [if_pos h1]
          · rw [if_neg h1, if_pos (by omega), if_pos (by omega)]
        · rw [if_pos (by rw [n_le (by omega) (by omega)]; exact hs)]
      · split
        · rename_i h; rw [h.1, h.2]; exact h6
        · rfl
    · have hs : p < S := by omega
      have hb := hB.lo p hs
      have hl := (isLt_i (b p)).mp (hk.al p (Nat.le_refl _) hq)
      have hT2 : Tp (pI m 30 6 (nI (p + 1))) b S := ⟨by rw [rI, if_neg (by omega)]; exact hT.1, fun i hi => by rw [rI, if_neg (by omega)]; exact hT.2 i hi⟩
      obtain ⟨m', e1, e2, e3⟩ := ih (p + 1) (pI m 30 6 (nI (p + 1))) hT2 (by rw [rI, if_pos ⟨rfl, rfl⟩]) (by omega) ⟨by omega, fun i h1 h2 => hk.al i (by omega) h2, hk.no⟩ (by omega)
      refine ⟨m', ?_, e2, fun x j => ?_⟩
      · simp (disch := omega) only [n_le, n_inn, n_cl, hT.2 p hs, lit_n, n_lt, nI_add]
        rw [if_neg (by omega), if_pos (by omega), if_neg (by omega), if_pos (by omega), if_neg (by omega)]
        exact e1
      · rw [e3, rI]; grind
