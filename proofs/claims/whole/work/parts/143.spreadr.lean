/-! HOW FAR: the reference's table, and ways walked -/
def Fc (c : Nat) (m m' : Mem) : Prop := m'.2 = m.2 ∧ ∀ x j, x ≠ c → m'.1 x j = m.1 x j
theorem Fc_r {c : Nat} (m : Mem) : Fc c m m := ⟨rfl, fun _ _ _ => rfl⟩
theorem Fc_t {c : Nat} {a b d : Mem} (h : Fc c a b) (g : Fc c b d) : Fc c a d := ⟨g.1.trans h.1, fun x j q => (g.2 x j q).trans (h.2 x j q)⟩
theorem Fc_1 {c : Nat} (m : Mem) (k : Nat) (v : Int32) : Fc c m (pI m c k v) := ⟨rfl, fun x j q => by rw [rI, if_neg (fun z => q z.1)]⟩
theorem fwN_l (r : Nat → Nat) (hr : ∀ k, k < 64 → r k ≤ 99) (c : Nat) {k : Nat} (hk : k < 64) : fwN r c k ≤ 999 := by
  have h1 := fw_le r c k
  have h2 := hr k hk
  unfold fw0 at h1
  split at h1
  · omega
  · split at h1 <;> omega
theorem spr_66 (k58 : Int32 → Mem → Option (Mem)) {r : Nat → Nat} {c : Nat} (hc : c < 8) (hr : ∀ k, k < 64 → r k ≤ 99) : ∀ n k m, k ≤ 64 → 64 - k < n → (∀ q, q < 64 → m.1 70 q = nI (if q < k then fwN r (c + 1) q else fwN r c q)) → ∃ m', X10_spreads_66 k58 n (nI c) (nI k) m = k58 (nI (c + 1)) m' ∧ (∀ q, q < 64 → m'.1 70 q = nI (fwN r (c + 1) q)) ∧ Fc 70 m m' := by
  intro n
  induction n with
  | zero => intro k m _ h; omega
  | succ n ih =>
    intro k m hk hn hm
    rw [X10_spreads_66]
    by_cases h8 : k = 64
    · subst h8
      simp (disch := omega) only [leT, leF, ltT, ltF, eqT, eqF, inT, n_cl, nI_add, pk_mul, n_div, pk_sub, md8, Bool.true_eq_false, Bool.false_eq_true, L0, L1, L2, L3, L4, L5, L6, L7, L8, L9, L10, L20, L31, L40, L64, L99, L100, L255, L256, L999, L1000, L99999, ↓reduceIte]
      exact ⟨m, rfl, fun q hq => by rw [hm q hq, if_pos hq], Fc_r m⟩
    · have hk' : k < 64 := by omega
      have a1 : 8 * (k / 8) + c < 64 := by omega
      have a2 : 8 * c + k % 8 < 64 := by omega
      have e1 : m.1 70 (8 * (k / 8) + c) = nI (fwN r c (8 * (k / 8) + c)) := by
        rw [hm _ a1]
        split
        · rw [fwN, fw1, show (8 * (k / 8) + c) / 8 = k / 8 by omega, show (8 * (k / 8) + c) % 8 = c by omega, Nat.min_eq_left (by omega)]
        · rfl
      have e2 : m.1 70 (8 * c + k % 8) = nI (fwN r c (8 * c + k % 8)) := by
        rw [hm _ a2]
        split
        · rw [fwN, fw1, show (8 * c + k % 8) / 8 = c by omega, show (8 * c + k % 8) % 8 = k % 8 by omega, Nat.min_eq_left (by omega)]
        · rfl
      have e3 : m.1 70 k = nI (fwN r c k) := by rw [hm _ hk', if_neg (by omega)]
      have b1 := fwN_l r hr c a1
      have b2 := fwN_l r hr c a2
      have b3 := fwN_l r hr c hk'
      have fin : ∀ v, v = fwN r (c + 1) k → ∃ m', X10_spreads_66 k58 n (nI c) (nI (k + 1)) (pI m 70 k (nI v)) = k58 (nI (c + 1)) m' ∧ (∀ q, q < 64 → m'.1 70 q = nI (fwN r (c + 1) q)) ∧ Fc 70 m m' := by
        intro v hv
        obtain ⟨m', c1, c2, c3⟩ := ih (k + 1) (pI m 70 k (nI v)) (by omega) (by omega) (fun q hq => by
          rw [rI]
          by_cases z : q = k
          · subst z; rw [if_pos ⟨rfl, rfl⟩, if_pos (by omega), hv]
          · rw [if_neg (fun y => z y.2), hm q hq]
            by_cases y : q < k
            · rw [if_pos y, if_pos (by omega)]
            · rw [if_neg y, if_neg (by omega)])
        exact ⟨m', c1, c2, Fc_t (Fc_1 m k _) c3⟩
      by_cases h : fwN r c k ≤ fwN r c (8 * (k / 8) + c) + fwN r c (8 * c + k % 8)
      · simp (disch := omega) only [leT, leF, ltT, ltF, eqT, eqF, inT, n_cl, nI_add, pk_mul, n_div, pk_sub, md8, Bool.true_eq_false, Bool.false_eq_true, L0, L1, L2, L3, L4, L5, L6, L7, L8, L9, L10, L20, L31, L40, L64, L99, L100, L255, L256, L999, L1000, L99999, ↓reduceIte, e1, e2, e3, X10_spreads_127]
        exact fin _ (by rw [fwN, fw1, Nat.min_eq_left h])
      · simp (disch := omega) only [leT, leF, ltT, ltF, eqT, eqF, inT, n_cl, nI_add, pk_mul, n_div, pk_sub, md8, Bool.true_eq_false, Bool.false_eq_true, L0, L1, L2, L3, L4, L5, L6, L7, L8, L9, L10, L20, L31, L40, L64, L99, L100, L255, L256, L999, L1000, L99999, ↓reduceIte, e1, e2, e3, X10_spreads_127]
        exact fin _ (by rw [fwN, fw1, Nat.min_eq_right (by omega)])
theorem spr_58 {r : Nat → Nat} (hr : ∀ k, k < 64 → r k ≤ 99) : ∀ n c m, c ≤ 8 → 8 - c < n → (∀ q, q < 64 → m.1 70 q = nI (fwN r c q)) → ∃ m', X10_spreads_58 n (nI c) m = some m' ∧ (∀ q, q < 64 → m'.1 70 q = nI (fwD r q)) ∧ Fc 70 m m' := by
  intro n
  induction n with
  | zero => intro k m _ h; omega
  | succ n ih =>
    intro c m hc hn hm
    rw [X10_spreads_58]
    by_cases h8 : c = 8
    · subst h8
      simp (disch := omega) only [leT, leF, ltT, ltF, eqT, eqF, inT, n_cl, nI_add, pk_mul, n_div, pk_sub, md8, Bool.true_eq_false, Bool.false_eq_true, L0, L1, L2, L3, L4, L5, L6, L7, L8, L9, L10, L20, L31, L40, L64, L99, L100, L255, L256, L999, L1000, L99999, ↓reduceIte]
      exact ⟨m, rfl, hm, Fc_r m⟩
    · simp (disch := omega) only [leT, leF, ltT, ltF, eqT, eqF, inT, n_cl, nI_add, pk_mul, n_div, pk_sub, md8, Bool.true_eq_false, Bool.false_eq_true, L0, L1, L2, L3, L4, L5, L6, L7, L8, L9, L10, L20, L31, L40, L64, L99, L100, L255, L256, L999, L1000, L99999, ↓reduceIte]
      obtain ⟨m', a1, a2, a3⟩ := spr_66 (X10_spreads_58 n) (c := c) (by omega) hr 10000 0 m (by decide) (by decide) (fun q hq => by rw [if_neg (by omega)]; exact hm q hq)
      rw [a1]
      obtain ⟨m2, b1, b2, b3⟩ := ih (c + 1) m' (by omega) (by omega) a2
      exact ⟨m2, b1, b2, Fc_t a3 b3⟩
theorem spr_2 {r : Nat → Nat} (hr : ∀ k, k < 64 → r k ≤ 99) : ∀ n k m, k ≤ 64 → 64 - k < n → Ro m 67 r → (∀ q, q < k → m.1 70 q = nI (fw0 r q)) → ∃ m', X10_spreads_2 n (nI k) m = some m' ∧ (∀ q, q < 64 → m'.1 70 q = nI (fwD r q)) ∧ Fc 70 m m' := by
  intro n
  induction n with
  | zero => intro k m _ h; omega
  | succ n ih =>
    intro k m hk hn ho hm
    rw [X10_spreads_2]
    by_cases h8 : k = 64
    · subst h8
      simp (disch := omega) only [leT, leF, ltT, ltF, eqT, eqF, inT, n_cl, nI_add, pk_mul, n_div, pk_sub, md8, Bool.true_eq_false, Bool.false_eq_true, L0, L1, L2, L3, L4, L5, L6, L7, L8, L9, L10, L20, L31, L40, L64, L99, L100, L255, L256, L999, L1000, L99999, ↓reduceIte]
      exact spr_58 hr 10000 0 m (by decide) (by decide) hm
    · have hk' : k < 64 := by omega
      have e0 := ho k hk'
      have hrk := hr k hk'
      have fin : ∀ v, v = fw0 r k → ∃ m', X10_spreads_2 n (nI (k + 1)) (pI m 70 k (nI v)) = some m' ∧ (∀ q, q < 64 → m'.1 70 q = nI (fwD r q)) ∧ Fc 70 m m' := by
        intro v hv
        obtain ⟨m', c1, c2, c3⟩ := ih (k + 1) (pI m 70 k (nI v)) (by omega) (by omega) (fun q hq => by rw [rI, if_neg (by omega)]; exact ho q hq) (fun q hq => by
          rw [rI]
          by_cases z : q = k
          · subst z; rw [if_pos ⟨rfl, rfl⟩, hv]
          · rw [if_neg (fun y => z y.2), hm q (by omega)])
        exact ⟨m', c1, c2, Fc_t (Fc_1 m k _) c3⟩
      by_cases h : k / 8 = k % 8
      · simp (disch := omega) only [leT, leF, ltT, ltF, eqT, eqF, inT, n_cl, nI_add, pk_mul, n_div, pk_sub, md8, Bool.true_eq_false, Bool.false_eq_true, L0, L1, L2, L3, L4, L5, L6, L7, L8, L9, L10, L20, L31, L40, L64, L99, L100, L255, L256, L999, L1000, L99999, ↓reduceIte, X10_spreads_49]
        exact fin _ (by rw [fw0, if_pos h])
      · by_cases h0 : r k = 0
        · simp (disch := omega) only [leT, leF, ltT, ltF, eqT, eqF, inT, n_cl, nI_add, pk_mul, n_div, pk_sub, md8, Bool.true_eq_false, Bool.false_eq_true, L0, L1, L2, L3, L4, L5, L6, L7, L8, L9, L10, L20, L31, L40, L64, L99, L100, L255, L256, L999, L1000, L99999, ↓reduceIte, X10_spreads_49, e0]
          exact fin _ (by rw [fw0, if_neg h, if_pos h0])
        · simp (disch := omega) only [leT, leF, ltT, ltF, eqT, eqF, inT, n_cl, nI_add, pk_mul, n_div, pk_sub, md8, Bool.true_eq_false, Bool.false_eq_true, L0, L1, L2, L3, L4, L5, L6, L7, L8, L9, L10, L20, L31, L40, L64, L99, L100, L255, L256, L999, L1000, L99999, ↓reduceIte, X10_spreads_49, e0]
          exact fin _ (by rw [fw0, if_neg h, if_neg h0])
/-- the reference's table of miles -/
theorem spreads_r {r : Nat → Nat} {m : Mem} (hr : ∀ k, k < 64 → r k ≤ 99) (ho : Ro m 67 r) : ∃ m', X10_spreads m = some m' ∧ (∀ q, q < 64 → m'.1 70 q = nI (fwD r q)) ∧ Fc 70 m m' := spr_2 hr 10000 0 m (by decide) (by decide) ho (fun q hq => absurd hq (by omega))
theorem knows_r {p : Nat} (hp : p < 6) (m : Mem) : X10_knows (nI p) m = some (m.1 69 (5 * p + 2), m) := by
  unfold X10_knows
  simp (disch := omega) only [leT, leF, ltT, ltF, eqT, eqF, inT, n_cl, nI_add, pk_mul, n_div, pk_sub, md8, Bool.true_eq_false, Bool.false_eq_true, L0, L1, L2, L3, L4, L5, L6, L7, L8, L9, L10, L20, L31, L40, L64, L99, L100, L255, L256, L999, L1000, L99999, ↓reduceIte]
