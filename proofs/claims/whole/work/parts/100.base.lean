/-! base: Int32 numbers as Nat -/
theorem lit_n (n : Nat) : (OfNat.ofNat n : Int32) = nI n := rfl
theorem n_le {a b : Nat} (ha : a < 2147483648) (hb : b < 2147483648) : (nI a ≤ nI b) = (a ≤ b) := propext (nI_leI ha hb)
theorem n_lt {a b : Nat} (ha : a < 2147483648) (hb : b < 2147483648) : (nI a < nI b) = (a < b) := propext (nI_ltI ha hb)
theorem n_eq {a b : Nat} (ha : a < 2147483648) (hb : b < 2147483648) : (nI a = nI b) = (a = b) := propext (nI_eq ha hb)
theorem n_cl {a : Nat} (ha : a < 2147483648) : (nI a).toNatClampNeg = a := nI_clamp ha
theorem n_inn {a n : Nat} (ha : a < 2147483648) : inn (nI a) n = (a < n) := by
  apply propext
  constructor
  · intro h
    have h2 := inn_lt h
    rw [nI_clamp ha] at h2
    exact h2
  · intro h q
    rcases q with q | q
    · exact nI_pos ha q
    · rw [nI_clamp ha] at q; omega
theorem n_div {a d : Nat} (ha : a < 2147483648) (h0 : 0 < d) (hd : d < 2147483648) : nI a / nI d = nI (a / d) := pk_div ha h0 hd
theorem n_sub {a b : Nat} (h : b ≤ a) : nI a - nI b = nI (a - b) := pk_sub h
theorem upd_s (f : Nat → Int32) (k : Nat) (x : Int32) : upd f k x k = x := by simp [upd]
theorem upd_n {f : Nat → Int32} {k j : Nat} {x : Int32} (h : j ≠ k) : upd f k x j = f j := by simp [upd, h]
theorem rI (m : Mem) (a k : Nat) (v : Int32) (b j : Nat) : (pI m a k v).1 b j = if b = a ∧ j = k then v else m.1 b j := by
  simp only [pI, va_up]
  by_cases h : b = a
  · subst h; simp [upd]
  · simp [h]
theorem rI2 (m : Mem) (a k : Nat) (v : Int32) : (pI m a k v).2 = m.2 := rfl
/-- the reference's rows laid aside -/
theorem laysAside_l : ∀ (n k : Nat) (m : Mem), k ≤ 30 → 30 - k < n → ∃ m', X10_laysAside_2 n (nI k) m = some m' ∧ m'.2 = m.2 ∧ ∀ a j, m'.1 a j = if a = 71 ∧ k ≤ j ∧ j < 30 then m.1 69 j else if a = 63 ∧ j = 29 then m.1 63 7 else m.1 a j := by
  intro n
  induction n with
  | zero => intro k m _ h; omega
  | succ n ih =>
    intro k m hk hn
    rw [X10_laysAside_2]
    by_cases h : k = 30
    · subst h
      rw [if_pos (by decide)]
      refine ⟨_, rfl, rfl, fun a j => ?_⟩
      rw [rI]
      grind
    · simp (disch := omega) only [lit_n, n_le, n_inn, n_cl, nI_add]
      rw [if_neg (by omega), if_pos (by omega), if_pos (by omega)]
      obtain ⟨m', e, e2, e1⟩ := ih (k + 1) (pI m 71 k (m.1 69 k)) (by omega) (by omega)
      refine ⟨m', e, e2, fun a j => ?_⟩
      rw [e1]
      simp only [rI]
      grind
