/-! ways walked -/
def sm8 (D : Nat → Nat) : Nat := D 0 + D 1 + D 2 + D 3 + D 4 + D 5 + D 6 + D 7
theorem sm8_lt {e : Nat → Nat → Nat} {ok : Nat → Bool} {D : Nat → Nat} {u : Nat} (hu : u < 8) (h : rln e ok D 64 u < D u) : sm8 (rln e ok D 64) < sm8 D := by
  have h0 := rln_mono (e := e) (ok := ok) D 0 64 0 (by decide)
  have h1 := rln_mono (e := e) (ok := ok) D 1 64 0 (by decide)
  have h2 := rln_mono (e := e) (ok := ok) D 2 64 0 (by decide)
  have h3 := rln_mono (e := e) (ok := ok) D 3 64 0 (by decide)
  have h4 := rln_mono (e := e) (ok := ok) D 4 64 0 (by decide)
  have h5 := rln_mono (e := e) (ok := ok) D 5 64 0 (by decide)
  have h6 := rln_mono (e := e) (ok := ok) D 6 64 0 (by decide)
  have h7 := rln_mono (e := e) (ok := ok) D 7 64 0 (by decide)
  rw [show rln e ok D 0 = D from rfl] at h0 h1 h2 h3 h4 h5 h6 h7
  unfold sm8
  rcases (show u = 0 ∨ u = 1 ∨ u = 2 ∨ u = 3 ∨ u = 4 ∨ u = 5 ∨ u = 6 ∨ u = 7 by omega) with rfl | rfl | rfl | rfl | rfl | rfl | rfl | rfl <;> omega
theorem wks_43 {r : Nat → Nat} {ok : Nat → Bool} {p : Nat} {kn : Int32} {D0 : Nat → Nat} (k34 : Int32 → Int32 → Mem → Option (Mem)) (hp : p < 6) (hr : ∀ k, k < 64 → r k ≤ 99) (hD : ∀ u, u < 8 → D0 u ≤ 999) (hok : ∀ t, t < 8 → ok t = bp kn t) :
    ∀ n k m v3, k ≤ 64 → 64 - k < n → Ro m 67 r → m.1 69 (5 * p + 2) = kn → Rw m 72 0 (rln (er r) ok D0 k) → Fl (er r) ok D0 v3 k →
    ∃ m' v3', X10_walks_43 k34 n (nI p) v3 (nI k) m = k34 (nI p) v3' m' ∧ Rw m' 72 0 (rln (er r) ok D0 64) ∧ Fl (er r) ok D0 v3' 64 ∧ Fc 72 m m' := by
  intro n
  induction n with
  | zero => intro k m v3 _ h; omega
  | succ n ih =>
    intro k m v3 hk hn ho hkn hm hf
    rw [X10_walks_43]
    by_cases h8 : k = 64
    · subst h8
      simp (disch := omega) only [leT, leF, ltT, ltF, eqT, eqF, inT, n_cl, nI_add, pk_mul, n_div, pk_sub, md8, Bool.true_eq_false, Bool.false_eq_true, L0, L1, L2, L3, L4, L5, L6, L7, L8, L9, L10, L20, L31, L40, L64, L99, L100, L255, L256, L999, L1000, L99999, ↓reduceIte]
      exact ⟨m, v3, rfl, hm, hf, Fc_r m⟩
    · have hk' : k < 64 := by omega
      have hw : k / 8 < 8 := by omega
      have ht : k % 8 < 8 := by omega
      have e0 := ho k hk'
      have hrl := hr k hk'
      have hwv : m.1 72 (k / 8) = nI (rln (er r) ok D0 k (k / 8)) := by have := hm _ hw; rw [Nat.zero_add] at this; exact this
      have htv : m.1 72 (k % 8) = nI (rln (er r) ok D0 k (k % 8)) := by have := hm _ ht; rw [Nat.zero_add] at this; exact this
      have hDt := rln_d (e := er r) (ok := ok) hD k (u := k % 8) ht
      have hDw := rln_d (e := er r) (ok := ok) hD k (u := k / 8) hw
      have ek : 8 * (k / 8) + k % 8 = k := by omega
      have go : rln (er r) ok D0 (k + 1) = rln (er r) ok D0 k → ∃ m' v3', X10_walks_43 k34 n (nI p) v3 (nI (k + 1)) m = k34 (nI p) v3' m' ∧ Rw m' 72 0 (rln (er r) ok D0 64) ∧ Fl (er r) ok D0 v3' 64 ∧ Fc 72 m m' := by
        intro g
        exact ih (k + 1) m v3 (by omega) (by omega) ho hkn (by rw [g]; exact hm) (Fl_no hf g)
      by_cases c1 : r k = 0
      · simp (disch := omega) only [leT, leF, ltT, ltF, eqT, eqF, inT, n_cl, nI_add, pk_mul, n_div, pk_sub, md8, Bool.true_eq_false, Bool.false_eq_true, L0, L1, L2, L3, L4, L5, L6, L7, L8, L9, L10, L20, L31, L40, L64, L99, L100, L255, L256, L999, L1000, L99999, ↓reduceIte, e0, X10_walks_140]
        exact go (rl_no (fun q => q.1 (by show r (8 * (k / 8) + k % 8) = 0; rw [ek]; exact c1)))
      · by_cases c2 : bp kn (k % 8) = true
        · by_cases c3 : rln (er r) ok D0 k (k / 8) < 999
          · by_cases c4 : rln (er r) ok D0 k (k % 8) ≤ rln (er r) ok D0 k (k / 8) + r k
            · simp (disch := omega) only [leT, leF, ltT, ltF, eqT, eqF, inT, n_cl, nI_add, pk_mul, n_div, pk_sub, md8, Bool.true_eq_false, Bool.false_eq_true, L0, L1, L2, L3, L4, L5, L6, L7, L8, L9, L10, L20, L31, L40, L64, L99, L100, L255, L256, L999, L1000, L99999, ↓reduceIte, e0, X10_walks_140, knows_r hp, bi, hkn, bp_t, c2, hwv, htv]
              exact go (rl_no (fun q => by have : rln (er r) ok D0 k (k / 8) + r (8 * (k / 8) + k % 8) < _ := q.2.2.2; rw [ek] at this; omega))
            · simp (disch := omega) only [leT, leF, ltT, ltF, eqT, eqF, inT, n_cl, nI_add, pk_mul, n_div, pk_sub, md8, Bool.true_eq_false, Bool.false_eq_true, L0, L1, L2, L3, L4, L5, L6, L7, L8, L9, L10, L20, L31, L40, L64, L99, L100, L255, L256, L999, L1000, L99999, ↓reduceIte, e0, X10_walks_140, knows_r hp, bi, hkn, bp_t, c2, hwv, htv]
              have hc : er r (k / 8) (k % 8) ≠ 0 ∧ ok (k % 8) = true ∧ rln (er r) ok D0 k (k / 8) < 999 ∧ rln (er r) ok D0 k (k / 8) + er r (k / 8) (k % 8) < rln (er r) ok D0 k (k % 8) := ⟨by show r (8 * (k / 8) + k % 8) ≠ 0; rw [ek]; exact c1, by rw [hok _ ht]; exact c2, c3, by show rln (er r) ok D0 k (k / 8) + r (8 * (k / 8) + k % 8) < _; rw [ek]; omega⟩
              have hy := Rw_yes hw ht hm hc
              rw [Nat.zero_add, ek, show er r (k / 8) (k % 8) = r k by show r (8 * (k / 8) + k % 8) = r k; rw [ek]] at hy
              have hF := Fl_yes (e := er r) (ok := ok) (D0 := D0) hw ht (by rw [ek]; exact hc)
              rw [ek] at hF
              obtain ⟨m', v3', a1, a2, a3, a4⟩ := ih (k + 1) (pI m 72 (k % 8) (nI (rln (er r) ok D0 k (k / 8) + r k))) (nI 1) (by omega) (by omega) (fun q hq => by rw [rI, if_neg (by omega)]; exact ho q hq) (by rw [rI, if_neg (by omega)]; exact hkn) hy hF
              exact ⟨m', v3', a1, a2, a3, Fc_t (Fc_1 m _ _) a4⟩
          · simp (disch := omega) only [leT, leF, ltT, ltF, eqT, eqF, inT, n_cl, nI_add, pk_mul, n_div, pk_sub, md8, Bool.true_eq_false, Bool.false_eq_true, L0, L1, L2, L3, L4, L5, L6, L7, L8, L9, L10, L20, L31, L40, L64, L99, L100, L255, L256, L999, L1000, L99999, ↓reduceIte, e0, X10_walks_140, knows_r hp, bi, hkn, bp_t, c2, hwv, htv]
            exact go (rl_no (fun q => c3 q.2.2.1))
        · simp (disch := omega) only [leT, leF, ltT, ltF, eqT, eqF, inT, n_cl, nI_add, pk_mul, n_div, pk_sub, md8, Bool.true_eq_false, Bool.false_eq_true, L0, L1, L2, L3, L4, L5, L6, L7, L8, L9, L10, L20, L31, L40, L64, L99, L100, L255, L256, L999, L1000, L99999, ↓reduceIte, e0, X10_walks_140, knows_r hp, bi, hkn, bp_t, c2]
          exact go (rl_no (by rw [hok _ ht]; exact fun q => c2 q.2.1))
theorem wks_34 {r : Nat → Nat} {ok : Nat → Bool} {p x : Nat} {kn : Int32} {D : Nat → Nat} (hp : p < 6) (hr : ∀ k, k < 64 → r k ≤ 99) (hok : ∀ t, t < 8 → ok t = bp kn t) (hI : IsD (er r) ok x D) :
    ∀ n D0 m v3, AtD (er r) ok x D0 → Ro m 67 r → m.1 69 (5 * p + 2) = kn → Rw m 72 0 D0 → (v3 = nI 1 ∧ sm8 D0 + 1 < n ∨ v3 = nI 0 ∧ 0 < n ∧ IsD (er r) ok x D0) →
    ∃ m', X10_walks_34 n (nI p) v3 m = some m' ∧ Rw m' 72 0 D ∧ Fc 72 m m' := by
  intro n
  induction n with
  | zero => intro D0 m v3 _ _ _ _ h; omega
  | succ n ih =>
    intro D0 m v3 hA ho hkn hm hf
    rw [X10_walks_34]
    rcases hf with ⟨hf, hs⟩ | ⟨hf, _, hz⟩
    · simp (disch := omega) only [leT, leF, ltT, ltF, eqT, eqF, inT, n_cl, nI_add, pk_mul, n_div, pk_sub, md8, Bool.true_eq_false, Bool.false_eq_true, L0, L1, L2, L3, L4, L5, L6, L7, L8, L9, L10, L20, L31, L40, L64, L99, L100, L255, L256, L999, L1000, L99999, ↓reduceIte, hf]
      obtain ⟨m', v3', a1, a2, a3, a4⟩ := wks_43 (r := r) (ok := ok) (p := p) (kn := kn) (D0 := D0) (X10_walks_34 n) hp hr (fun u hu => (hA.2 u hu).1) hok 10000 0 m (nI 0) (by decide) (by decide) ho hkn hm (.inl ⟨rfl, fun _ _ => rfl⟩)
      rw [a1]
      obtain ⟨m2, b1, b2, b3⟩ := ih (rln (er r) ok D0 64) m' v3' (rln_at hA 64 (by decide)) (fun k hk => by rw [a4.2 67 k (by decide)]; exact ho k hk) (by rw [a4.2 69 _ (by decide)]; exact hkn) a2 (by
        rcases a3 with ⟨a3, q⟩ | ⟨a3, u, hu, q⟩
        · right
          refine ⟨a3, by omega, rln_at hA 64 (by decide), ?_⟩
          have hc := rln_cl q
          intro w t hw ht z1 z2 z3
          rw [q w hw] at z3 ⊢
          rw [q t ht]
          exact hc w t hw ht z1 z2 z3
        · left
          have := sm8_lt hu q
          exact ⟨a3, by omega⟩)
      exact ⟨m2, b1, b2, Fc_t a4 b3⟩
    · simp (disch := omega) only [leT, leF, ltT, ltF, eqT, eqF, inT, n_cl, nI_add, pk_mul, n_div, pk_sub, md8, Bool.true_eq_false, Bool.false_eq_true, L0, L1, L2, L3, L4, L5, L6, L7, L8, L9, L10, L20, L31, L40, L64, L99, L100, L255, L256, L999, L1000, L99999, ↓reduceIte, hf]
      exact ⟨m, rfl, fun t ht => by rw [hm t ht, IsD_u hz hI t ht], Fc_r m⟩
theorem wks_2 {r : Nat → Nat} {ok : Nat → Bool} {p x : Nat} {kn : Int32} {D : Nat → Nat} (hp : p < 6) (hx : x < 8) (hr : ∀ k, k < 64 → r k ≤ 99) (hok : ∀ t, t < 8 → ok t = bp kn t) (hI : IsD (er r) ok x D) :
    ∀ n t m, t ≤ 8 → 8 - t < n → Ro m 67 r → m.1 69 (5 * p + 2) = kn → (∀ u, u < t → m.1 72 u = nI (D00 x u)) →
    ∃ m', X10_walks_2 n (nI p) (nI x) (nI t) m = some m' ∧ Rw m' 72 0 D ∧ Fc 72 m m' := by
  intro n
  induction n with
  | zero => intro j m _ h; omega
  | succ n ih =>
    intro t m ht hn ho hkn hm
    rw [X10_walks_2]
    by_cases h8 : t = 8
    · subst h8
      simp (disch := omega) only [leT, leF, ltT, ltF, eqT, eqF, inT, n_cl, nI_add, pk_mul, n_div, pk_sub, md8, Bool.true_eq_false, Bool.false_eq_true, L0, L1, L2, L3, L4, L5, L6, L7, L8, L9, L10, L20, L31, L40, L64, L99, L100, L255, L256, L999, L1000, L99999, ↓reduceIte]
      refine wks_34 hp hr hok hI 10000 (D00 x) m (nI 1) (D00_at _ _ _) ho hkn (fun u hu => by rw [Nat.zero_add]; exact hm u hu) (.inl ⟨rfl, ?_⟩)
      unfold sm8 D00
      rcases (show x = 0 ∨ x = 1 ∨ x = 2 ∨ x = 3 ∨ x = 4 ∨ x = 5 ∨ x = 6 ∨ x = 7 by omega) with rfl | rfl | rfl | rfl | rfl | rfl | rfl | rfl <;> decide
    · have ht8 : t < 8 := by omega
      have fin : ∀ v, v = D00 x t → ∃ m', X10_walks_2 n (nI p) (nI x) (nI (t + 1)) (pI m 72 t (nI v)) = some m' ∧ Rw m' 72 0 D ∧ Fc 72 m m' := by
        intro v hv
        obtain ⟨m', a1, a2, a3⟩ := ih (t + 1) (pI m 72 t (nI v)) (by omega) (by omega) (fun q hq => by rw [rI, if_neg (by omega)]; exact ho q hq) (by rw [rI, if_neg (by omega)]; exact hkn) (fun u hu => by
          rw [rI]
          by_cases q : u = t
          · subst q; rw [if_pos ⟨rfl, rfl⟩, hv]
          · rw [if_neg (fun z => q z.2)]; exact hm u (by omega))
        exact ⟨m', a1, a2, Fc_t (Fc_1 m t _) a3⟩
      by_cases q : t = x
      · simp (disch := omega) only [leT, leF, ltT, ltF, eqT, eqF, inT, n_cl, nI_add, pk_mul, n_div, pk_sub, md8, Bool.true_eq_false, Bool.false_eq_true, L0, L1, L2, L3, L4, L5, L6, L7, L8, L9, L10, L20, L31, L40, L64, L99, L100, L255, L256, L999, L1000, L99999, ↓reduceIte, X10_walks_25]
        exact fin 0 (by unfold D00; rw [if_pos q])
      · simp (disch := omega) only [leT, leF, ltT, ltF, eqT, eqF, inT, n_cl, nI_add, pk_mul, n_div, pk_sub, md8, Bool.true_eq_false, Bool.false_eq_true, L0, L1, L2, L3, L4, L5, L6, L7, L8, L9, L10, L20, L31, L40, L64, L99, L100, L255, L256, L999, L1000, L99999, ↓reduceIte, X10_walks_25]
        exact fin 999 (by unfold D00; rw [if_neg q])
theorem walks_r {r : Nat → Nat} {ok : Nat → Bool} {p x : Nat} {kn : Int32} {D : Nat → Nat} {m : Mem} (hp : p < 6) (hx : x < 8) (hr : ∀ k, k < 64 → r k ≤ 99) (hok : ∀ t, t < 8 → ok t = bp kn t) (hI : IsD (er r) ok x D) (ho : Ro m 67 r) (hkn : m.1 69 (5 * p + 2) = kn) : ∃ m', X10_walks (nI p) (nI x) m = some m' ∧ (∀ t, t < 8 → m'.1 72 t = nI (D t)) ∧ Fc 72 m m' := by
  obtain ⟨m', a, b, c⟩ := wks_2 hp hx hr hok hI 10000 0 m (by decide) (by decide) ho hkn (fun u hu => absurd hu (by omega))
  exact ⟨m', a, fun t ht => by have := b t ht; rw [Nat.zero_add] at this; exact this, c⟩
/-- what is reached, as bits -/
def rcB (D : Nat → Nat) : Nat → Int32
  | 0 => nI 0
  | t + 1 => if D t < 999 then rcB D t ||| (nI 1 <<< (nI t &&& nI 31)) else rcB D t
theorem rchR {D : Nat → Nat} (hD : ∀ t, t < 8 → D t ≤ 999) : ∀ n t m, t ≤ 8 → 8 - t < n → (∀ t, t < 8 → m.1 72 t = nI (D t)) → X10_reachOf_19 n (rcB D t) (nI t) m = some (rcB D 8, m) := by
  intro n
  induction n with
  | zero => intro t m _ h; omega
  | succ n ih =>
    intro t m ht hn hm
    rw [X10_reachOf_19]
    by_cases h8 : t = 8
    · subst h8
      simp (disch := omega) only [leT, leF, ltT, ltF, eqT, eqF, inT, n_cl, nI_add, pk_mul, n_div, pk_sub, md8, Bool.true_eq_false, Bool.false_eq_true, L0, L1, L2, L3, L4, L5, L6, L7, L8, L9, L10, L20, L31, L40, L64, L99, L100, L255, L256, L999, L1000, L99999, ↓reduceIte]
    · have ht8 : t < 8 := by omega
      have e := hm t ht8
      have hd := hD t ht8
      by_cases q : D t < 999
      · have hh := ih (t + 1) m (by omega) (by omega) hm
        rw [rcB, if_pos q] at hh
        simp (disch := omega) only [leT, leF, ltT, ltF, eqT, eqF, inT, n_cl, nI_add, pk_mul, n_div, pk_sub, md8, Bool.true_eq_false, Bool.false_eq_true, L0, L1, L2, L3, L4, L5, L6, L7, L8, L9, L10, L20, L31, L40, L64, L99, L100, L255, L256, L999, L1000, L99999, ↓reduceIte, X10_reachOf_43, e]
        exact hh
      · have hh := ih (t + 1) m (by omega) (by omega) hm
        rw [rcB, if_neg q] at hh
        simp (disch := omega) only [leT, leF, ltT, ltF, eqT, eqF, inT, n_cl, nI_add, pk_mul, n_div, pk_sub, md8, Bool.true_eq_false, Bool.false_eq_true, L0, L1, L2, L3, L4, L5, L6, L7, L8, L9, L10, L20, L31, L40, L64, L99, L100, L255, L256, L999, L1000, L99999, ↓reduceIte, X10_reachOf_43, e]
        rw [show ∀ a : Int32, a ||| (nI 0 <<< (nI t &&& nI 31)) = a from fun a => by rw [show nI 0 <<< (nI t &&& nI 31) = (0 : Int32) from Int32.zero_shiftLeft]; exact Int32.or_zero]
        exact hh
theorem rchC {D : Nat → Nat} (hD : ∀ t, t < 8 → D t ≤ 999) : ∀ n t m, t ≤ 8 → 8 - t < n → (∀ t, t < 8 → m.1 4 t = nI (D t)) → X4_reach_16 n (rcB D t) (nI t) m = some (rcB D 8, m) := by
  intro n
  induction n with
  | zero => intro t m _ h; omega
  | succ n ih =>
    intro t m ht hn hm
    rw [X4_reach_16]
    by_cases h8 : t = 8
    · subst h8
      simp (disch := omega) only [leT, leF, ltT, ltF, eqT, eqF, inT, n_cl, nI_add, pk_mul, n_div, pk_sub, md8, Bool.true_eq_false, Bool.false_eq_true, L0, L1, L2, L3, L4, L5, L6, L7, L8, L9, L10, L20, L31, L40, L64, L99, L100, L255, L256, L999, L1000, L99999, ↓reduceIte]
    · have ht8 : t < 8 := by omega
      have e := hm t ht8
      have hd := hD t ht8
      have hh := ih (t + 1) m (by omega) (by omega) hm
      by_cases q : D t < 999
      · rw [rcB, if_pos q] at hh
        simp (disch := omega) only [leT, leF, ltT, ltF, eqT, eqF, inT, n_cl, nI_add, pk_mul, n_div, pk_sub, md8, Bool.true_eq_false, Bool.false_eq_true, L0, L1, L2, L3, L4, L5, L6, L7, L8, L9, L10, L20, L31, L40, L64, L99, L100, L255, L256, L999, L1000, L99999, ↓reduceIte, X4_reach_43, e]
        exact hh
      · rw [rcB, if_neg q] at hh
        simp (disch := omega) only [leT, leF, ltT, ltF, eqT, eqF, inT, n_cl, nI_add, pk_mul, n_div, pk_sub, md8, Bool.true_eq_false, Bool.false_eq_true, L0, L1, L2, L3, L4, L5, L6, L7, L8, L9, L10, L20, L31, L40, L64, L99, L100, L255, L256, L999, L1000, L99999, ↓reduceIte, X4_reach_43, e]
        exact hh
theorem reachOf_r {r : Nat → Nat} {ok : Nat → Bool} {p x : Nat} {kn : Int32} {D : Nat → Nat} {m : Mem} (hp : p < 6) (hx : x < 8) (hr : ∀ k, k < 64 → r k ≤ 99) (hok : ∀ t, t < 8 → ok t = bp kn t) (hI : IsD (er r) ok x D) (ho : Ro m 67 r) (hkn : m.1 69 (5 * p + 2) = kn) (hpl : m.1 69 (5 * p + 1) = nI x) : ∃ m', X10_reachOf (nI p) m = some (rcB D 8, m') ∧ Fc 72 m m' := by
  obtain ⟨m', a, b, c⟩ := walks_r hp hx hr hok hI ho hkn
  unfold X10_reachOf
  simp (disch := omega) only [leT, leF, ltT, ltF, eqT, eqF, inT, n_cl, nI_add, pk_mul, n_div, pk_sub, md8, Bool.true_eq_false, Bool.false_eq_true, L0, L1, L2, L3, L4, L5, L6, L7, L8, L9, L10, L20, L31, L40, L64, L99, L100, L255, L256, L999, L1000, L99999, ↓reduceIte, hpl, a, bv]
  exact ⟨m', rchR (fun t ht => (hI.1.2 t ht).1) 10000 0 m' (by decide) (by decide) b, c⟩
theorem spreadS_c {r : Nat → Nat} {ok : Nat → Bool} {kn : Int32} {x : Nat} {D : Nat → Nat} {m : Mem} (hx : x < 8) (hr : ∀ k, k < 64 → r k ≤ 99) (hd : ∀ w, w < 8 → r (9 * w) = 0) (hok : ∀ t, t < 8 → ok t = bp kn t) (hI : IsD (er r) ok x D) (ho : Ro m 2 r) : ∃ m', X4_spreadS (nI x) kn (0 : Int32) m = some m' ∧ (∀ t, t < 8 → m'.1 4 t = nI (D t)) ∧ Fc 4 m m' := by
  obtain ⟨m', a, b, c⟩ := spS_3 (B := 0) hx (by decide) hr hd hok hI 10000 0 m (by decide) (by decide) ho (fun u hu => absurd hu (by omega))
  exact ⟨m', a, fun t ht => by have := b t ht; rw [Nat.zero_add] at this; exact this, c.1, fun y j q => c.2 y j (fun z => q z.1)⟩
theorem reach_c {r : Nat → Nat} {ok : Nat → Bool} {kn : Int32} {x : Nat} {D : Nat → Nat} {m : Mem} (hx : x < 8) (hr : ∀ k, k < 64 → r k ≤ 99) (hd : ∀ w, w < 8 → r (9 * w) = 0) (hok : ∀ t, t < 8 → ok t = bp kn t) (hI : IsD (er r) ok x D) (ho : Ro m 2 r) : ∃ m', X4_reach (nI x) kn m = some (rcB D 8, m') ∧ Fc 4 m m' := by
  obtain ⟨m', a, b, c⟩ := spreadS_c hx hr hd hok hI ho
  unfold X4_reach
  rw [a]
  exact ⟨m', rchC (fun t ht => (hI.1.2 t ht).1) 10000 0 m' (by decide) (by decide) b, c⟩
theorem walked_c {r : Nat → Nat} {ok : Nat → Bool} {kn : Int32} {x y : Nat} {D : Nat → Nat} {m : Mem} (hx : x < 8) (hy : y < 8) (hr : ∀ k, k < 64 → r k ≤ 99) (hd : ∀ w, w < 8 → r (9 * w) = 0) (hok : ∀ t, t < 8 → ok t = bp kn t) (hI : IsD (er r) ok x D) (ho : Ro m 2 r) : ∃ m', X4_walked (nI x) (nI y) kn m = some (if D y = 999 then -1 else nI (D y), m') ∧ Fc 4 m m' := by
  obtain ⟨m', a, b, c⟩ := spreadS_c hx hr hd hok hI ho
  unfold X4_walked
  rw [a]
  have e := b y hy
  have := (hI.1.2 y hy).1
  by_cases q : D y = 999
  · simp (disch := omega) only [leT, leF, ltT, ltF, eqT, eqF, inT, n_cl, nI_add, pk_mul, n_div, pk_sub, md8, Bool.true_eq_false, Bool.false_eq_true, L0, L1, L2, L3, L4, L5, L6, L7, L8, L9, L10, L20, L31, L40, L64, L99, L100, L255, L256, L999, L1000, L99999, ↓reduceIte, bv, e, q]
    exact ⟨m', rfl, c⟩
  · simp (disch := omega) only [leT, leF, ltT, ltF, eqT, eqF, inT, n_cl, nI_add, pk_mul, n_div, pk_sub, md8, Bool.true_eq_false, Bool.false_eq_true, L0, L1, L2, L3, L4, L5, L6, L7, L8, L9, L10, L20, L31, L40, L64, L99, L100, L255, L256, L999, L1000, L99999, ↓reduceIte, bv, e, q]
    exact ⟨m', rfl, c⟩
