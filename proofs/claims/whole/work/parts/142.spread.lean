/-! HOW FAR: the rows are filled -/
theorem spF_83 {r : Nat → Nat} {ok : Nat → Bool} {kn v6 : Int32} {B w : Nat} {D0 : Nat → Nat} (k39 : Int32 → Int32 → Int32 → Int32 → Mem → Option (Mem)) (k57 : Int32 → Int32 → Int32 → Int32 → Int32 → Mem → Option (Mem)) (hB : B + 8 ≤ 64) (hw : w < 8) (hr : ∀ k, k < 64 → r k ≤ 99) (hd : r (8 * w + w) = 0) (hD : ∀ u, u < 8 → D0 u ≤ 999) (hok : ∀ t, t < 8 → ok t = bp kn t) :
    ∀ n t m v5, t ≤ 8 → 8 - t < n → Ro m 2 r → Rw m 3 B (rln (er r) ok D0 (8 * w + t)) → Fl (er r) ok D0 v5 (8 * w + t) → rln (er r) ok D0 (8 * w + t) w < 999 →
    ∃ m' v5', X4_spreadF_83 k39 k57 n kn (nI B) v5 v6 (nI w) (nI t) m = k57 kn (nI B) v5' v6 (nI (w + 1)) m' ∧ Rw m' 3 B (rln (er r) ok D0 (8 * (w + 1))) ∧ Fl (er r) ok D0 v5' (8 * (w + 1)) ∧ FrB 3 B m m' := by
  intro n
  induction n with
  | zero => intro t m v5 _ h; omega
  | succ n ih =>
    intro t m v5 ht hn ho hm hf hw9
    rw [X4_spreadF_83]
    by_cases h8 : t = 8
    · subst h8
      simp (disch := omega) only [leT, leF, ltT, ltF, eqT, eqF, inT, n_cl, nI_add, pk_mul, n_div, pk_sub, md8, Bool.true_eq_false, Bool.false_eq_true, L0, L1, L2, L3, L4, L5, L6, L7, L8, L9, L10, L20, L31, L40, L64, L99, L100, L255, L256, L999, L1000, L99999, ↓reduceIte, X4_spreadF_168]
      exact ⟨m, v5, rfl, hm, hf, FrB_r m⟩
    · have hk : 8 * w + t < 64 := by omega
      have ht8 : t < 8 := by omega
      have eix : w * 8 + t = 8 * w + t := by omega
      have e0 := ho (8 * w + t) hk
      have hrl := hr (8 * w + t) hk
      have hwv := hm w hw
      have htv := hm t ht8
      have hDt := rln_d (e := er r) (ok := ok) hD (8 * w + t) (u := t) ht8
      have e1 : (8 * w + t) / 8 = w := by omega
      have e2 : (8 * w + t) % 8 = t := by omega
      have go : rln (er r) ok D0 (8 * w + t + 1) = rln (er r) ok D0 (8 * w + t) → ∃ m' v5', X4_spreadF_83 k39 k57 n kn (nI B) v5 v6 (nI w) (nI (t + 1)) m = k57 kn (nI B) v5' v6 (nI (w + 1)) m' ∧ Rw m' 3 B (rln (er r) ok D0 (8 * (w + 1))) ∧ Fl (er r) ok D0 v5' (8 * (w + 1)) ∧ FrB 3 B m m' := by
        intro g
        exact ih (t + 1) m v5 (by omega) (by omega) ho (by rw [show 8 * w + (t + 1) = 8 * w + t + 1 from rfl, g]; exact hm) (Fl_no hf g) (by rw [show 8 * w + (t + 1) = 8 * w + t + 1 from rfl, g]; exact hw9)
      by_cases c1 : r (8 * w + t) = 0
      · simp (disch := omega) only [leT, leF, ltT, ltF, eqT, eqF, inT, n_cl, nI_add, pk_mul, n_div, pk_sub, md8, Bool.true_eq_false, Bool.false_eq_true, L0, L1, L2, L3, L4, L5, L6, L7, L8, L9, L10, L20, L31, L40, L64, L99, L100, L255, L256, L999, L1000, L99999, ↓reduceIte, eix, e0, X4_spreadF_162]
        exact go (rl_no (by rw [e1, e2]; exact fun q => q.1 c1))
      · by_cases c2 : bp kn t = false
        · simp (disch := omega) only [leT, leF, ltT, ltF, eqT, eqF, inT, n_cl, nI_add, pk_mul, n_div, pk_sub, md8, Bool.true_eq_false, Bool.false_eq_true, L0, L1, L2, L3, L4, L5, L6, L7, L8, L9, L10, L20, L31, L40, L64, L99, L100, L255, L256, L999, L1000, L99999, ↓reduceIte, eix, e0, X4_spreadF_162, bp_f, c2]
          exact go (rl_no (by rw [e1, e2, hok t ht8, c2]; exact fun q => absurd q.2.1 (by decide)))
        · by_cases c3 : rln (er r) ok D0 (8 * w + t) t ≤ rln (er r) ok D0 (8 * w + t) w + r (8 * w + t)
          · simp (disch := omega) only [leT, leF, ltT, ltF, eqT, eqF, inT, n_cl, nI_add, pk_mul, n_div, pk_sub, md8, Bool.true_eq_false, Bool.false_eq_true, L0, L1, L2, L3, L4, L5, L6, L7, L8, L9, L10, L20, L31, L40, L64, L99, L100, L255, L256, L999, L1000, L99999, ↓reduceIte, eix, e0, X4_spreadF_162, bp_f, c2, hwv, htv]
            exact go (rl_no (by rw [e1, e2]; exact fun q => by have : rln (er r) ok D0 (8 * w + t) w + r (8 * w + t) < _ := q.2.2.2; omega))
          · simp (disch := omega) only [leT, leF, ltT, ltF, eqT, eqF, inT, n_cl, nI_add, pk_mul, n_div, pk_sub, md8, Bool.true_eq_false, Bool.false_eq_true, L0, L1, L2, L3, L4, L5, L6, L7, L8, L9, L10, L20, L31, L40, L64, L99, L100, L255, L256, L999, L1000, L99999, ↓reduceIte, eix, e0, X4_spreadF_162, bp_f, c2, hwv, htv]
            have hc : er r w t ≠ 0 ∧ ok t = true ∧ rln (er r) ok D0 (8 * w + t) w < 999 ∧ rln (er r) ok D0 (8 * w + t) w + er r w t < rln (er r) ok D0 (8 * w + t) t := ⟨c1, by rw [hok t ht8]; simpa using c2, hw9, by show rln (er r) ok D0 (8 * w + t) w + r (8 * w + t) < _; omega⟩
            have hwt : w ≠ t := by
              intro q
              subst q
              exact c1 hd
            obtain ⟨m', v5', a1, a2, a3, a4⟩ := ih (t + 1) (pI m 3 (B + t) (nI (rln (er r) ok D0 (8 * w + t) w + r (8 * w + t)))) (nI 1) (by omega) (by omega) (FrB_ro (by decide) (FrB_1 ht8 m _) ho) (Rw_yes hw ht8 hm hc) (Fl_yes hw ht8 hc) (by
              rw [show 8 * w + (t + 1) = 8 * w + t + 1 from rfl, rln, rl_yes (by rw [e1, e2]; exact hc), e2, if_neg hwt]; exact hw9)
            exact ⟨m', v5', a1, a2, a3, FrB_t (FrB_1 ht8 m _) a4⟩
theorem rln_sk {r : Nat → Nat} {ok : Nat → Bool} {D0 : Nat → Nat} {w : Nat} (h : ¬ rln (er r) ok D0 (8 * w) w < 999) : ∀ t, t ≤ 8 → rln (er r) ok D0 (8 * w + t) = rln (er r) ok D0 (8 * w) := by
  intro t
  induction t with
  | zero => intro _; rfl
  | succ t ih =>
    intro ht
    have g := ih (by omega)
    rw [show 8 * w + (t + 1) = 8 * w + t + 1 from rfl, rln, rl_no, g]
    rw [g]
    have e1 : (8 * w + t) / 8 = w := by omega
    rw [e1]
    exact fun q => h q.2.2.1
theorem spF_57 {r : Nat → Nat} {ok : Nat → Bool} {kn v6 : Int32} {B : Nat} {D0 : Nat → Nat} (k39 : Int32 → Int32 → Int32 → Int32 → Mem → Option (Mem)) (hB : B + 8 ≤ 64) (hr : ∀ k, k < 64 → r k ≤ 99) (hd : ∀ w, w < 8 → r (9 * w) = 0) (hD : ∀ u, u < 8 → D0 u ≤ 999) (hok : ∀ t, t < 8 → ok t = bp kn t) :
    ∀ n w m v5, w ≤ 8 → 8 - w < n → Ro m 2 r → Rw m 3 B (rln (er r) ok D0 (8 * w)) → Fl (er r) ok D0 v5 (8 * w) →
    ∃ m' v5', X4_spreadF_57 k39 n kn (nI B) v5 v6 (nI w) m = k39 kn (nI B) v5' (v6 + 1) m' ∧ Rw m' 3 B (rln (er r) ok D0 64) ∧ Fl (er r) ok D0 v5' 64 ∧ FrB 3 B m m' := by
  intro n
  induction n with
  | zero => intro w m v5 _ h; omega
  | succ n ih =>
    intro w m v5 hw hn ho hm hf
    rw [X4_spreadF_57]
    by_cases h8 : w = 8
    · subst h8
      simp (disch := omega) only [leT, leF, ltT, ltF, eqT, eqF, inT, n_cl, nI_add, pk_mul, n_div, pk_sub, md8, Bool.true_eq_false, Bool.false_eq_true, L0, L1, L2, L3, L4, L5, L6, L7, L8, L9, L10, L20, L31, L40, L64, L99, L100, L255, L256, L999, L1000, L99999, ↓reduceIte]
      exact ⟨m, v5, rfl, hm, hf, FrB_r m⟩
    · have hw8 : w < 8 := by omega
      have hdw := rln_d (e := er r) (ok := ok) hD (8 * w) (u := w) hw8
      have hwv := hm w hw8
      by_cases c : rln (er r) ok D0 (8 * w) w = 999
      · simp (disch := omega) only [leT, leF, ltT, ltF, eqT, eqF, inT, n_cl, nI_add, pk_mul, n_div, pk_sub, md8, Bool.true_eq_false, Bool.false_eq_true, L0, L1, L2, L3, L4, L5, L6, L7, L8, L9, L10, L20, L31, L40, L64, L99, L100, L255, L256, L999, L1000, L99999, ↓reduceIte, hwv, X4_spreadF_168]
        have g := rln_sk (r := r) (ok := ok) (D0 := D0) (w := w) (by omega) 8 (by decide)
        have g' : rln (er r) ok D0 (8 * (w + 1)) = rln (er r) ok D0 (8 * w) := g
        exact ih (w + 1) m v5 (by omega) (by omega) ho (by rw [g']; exact hm) (by unfold Fl; rw [g']; exact hf)
      · simp (disch := omega) only [leT, leF, ltT, ltF, eqT, eqF, inT, n_cl, nI_add, pk_mul, n_div, pk_sub, md8, Bool.true_eq_false, Bool.false_eq_true, L0, L1, L2, L3, L4, L5, L6, L7, L8, L9, L10, L20, L31, L40, L64, L99, L100, L255, L256, L999, L1000, L99999, ↓reduceIte, hwv]
        obtain ⟨m', v5', a1, a2, a3, a4⟩ := spF_83 (r := r) (ok := ok) (kn := kn) (v6 := v6) (B := B) (w := w) (D0 := D0) k39 (X4_spreadF_57 k39 n) hB hw8 hr (by have := hd w hw8; rw [show 8 * w + w = 9 * w by omega]; exact this) hD hok 10000 0 m v5 (by decide) (by decide) ho hm hf (by show rln (er r) ok D0 (8 * w) w < 999; omega)
        rw [a1]
        obtain ⟨m2, v2, b1, b2, b3, b4⟩ := ih (w + 1) m' v5' (by omega) (by omega) (FrB_ro (by decide) a4 ho) a2 a3
        exact ⟨m2, v2, b1, b2, b3, FrB_t a4 b4⟩
theorem spF_39 {r : Nat → Nat} {ok : Nat → Bool} {kn : Int32} {B x : Nat} {D : Nat → Nat} (hx : x < 8) (hB : B + 8 ≤ 64) (hr : ∀ k, k < 64 → r k ≤ 99) (hd : ∀ w, w < 8 → r (9 * w) = 0) (hok : ∀ t, t < 8 → ok t = bp kn t) (hI : IsD (er r) ok x D) :
    ∀ n j m v5, j ≤ 8 → 8 - j < n → Ro m 2 r → Rw m 3 B (itD (er r) ok (D00 x) j) → (v5 = nI 1 ∨ v5 = nI 0 ∧ ∀ u, u < 8 → itD (er r) ok (D00 x) j u = D u) →
    ∃ m', X4_spreadF_39 n kn (nI B) v5 (nI j) m = some m' ∧ Rw m' 3 B D ∧ FrB 3 B m m' := by
  intro n
  induction n with
  | zero => intro j m v5 _ h; omega
  | succ n ih =>
    intro j m v5 hj hn ho hm hf
    rw [X4_spreadF_39]
    by_cases h8 : j = 8
    · subst h8
      simp (disch := omega) only [leT, leF, ltT, ltF, eqT, eqF, inT, n_cl, nI_add, pk_mul, n_div, pk_sub, md8, Bool.true_eq_false, Bool.false_eq_true, L0, L1, L2, L3, L4, L5, L6, L7, L8, L9, L10, L20, L31, L40, L64, L99, L100, L255, L256, L999, L1000, L99999, ↓reduceIte]
      exact ⟨m, rfl, fun t ht => by rw [hm t ht, itD_8 hx (D00_at _ _ x) hI t ht], FrB_r m⟩
    · rcases hf with hf | ⟨hf, hf2⟩
      · simp (disch := omega) only [leT, leF, ltT, ltF, eqT, eqF, inT, n_cl, nI_add, pk_mul, n_div, pk_sub, md8, Bool.true_eq_false, Bool.false_eq_true, L0, L1, L2, L3, L4, L5, L6, L7, L8, L9, L10, L20, L31, L40, L64, L99, L100, L255, L256, L999, L1000, L99999, ↓reduceIte, hf]
        have hA := itD_at (D00_at (er r) ok x) j
        obtain ⟨m', v5', a1, a2, a3, a4⟩ := spF_57 (r := r) (ok := ok) (kn := kn) (v6 := nI j) (B := B) (D0 := itD (er r) ok (D00 x) j) (X4_spreadF_39 n) hB hr hd (fun u hu => (hA.2 u hu).1) hok 10000 0 m (nI 0) (by decide) (by decide) ho hm (.inl ⟨rfl, fun _ _ => rfl⟩)
        rw [a1, show nI j + (1 : Int32) = nI (j + 1) from nI_1 j]
        obtain ⟨m2, b1, b2, b3⟩ := ih (j + 1) m' v5' (by omega) (by omega) (FrB_ro (by decide) a4 ho) a2 (by
          rcases a3 with ⟨a3, q⟩ | ⟨a3, _⟩
          · right
            refine ⟨a3, fun u hu => ?_⟩
            have := IsD_u (⟨hA, rln_cl q⟩ : IsD (er r) ok x _) hI u hu
            rw [itD, q u hu, this]
          · exact .inl a3)
        exact ⟨m2, b1, b2, FrB_t a4 b3⟩
      · simp (disch := omega) only [leT, leF, ltT, ltF, eqT, eqF, inT, n_cl, nI_add, pk_mul, n_div, pk_sub, md8, Bool.true_eq_false, Bool.false_eq_true, L0, L1, L2, L3, L4, L5, L6, L7, L8, L9, L10, L20, L31, L40, L64, L99, L100, L255, L256, L999, L1000, L99999, ↓reduceIte, hf]
        exact ⟨m, rfl, fun t ht => by rw [hm t ht, hf2 t ht], FrB_r m⟩
theorem spF_3 {r : Nat → Nat} {ok : Nat → Bool} {kn : Int32} {B x : Nat} {D : Nat → Nat} (hx : x < 8) (hB : B + 8 ≤ 64) (hr : ∀ k, k < 64 → r k ≤ 99) (hd : ∀ w, w < 8 → r (9 * w) = 0) (hok : ∀ t, t < 8 → ok t = bp kn t) (hI : IsD (er r) ok x D) :
    ∀ n t m, t ≤ 8 → 8 - t < n → Ro m 2 r → (∀ u, u < t → m.1 3 (B + u) = nI 999) →
    ∃ m', X4_spreadF_3 n (nI x) kn (nI B) (nI t) m = some m' ∧ Rw m' 3 B D ∧ FrB 3 B m m' := by
  intro n
  induction n with
  | zero => intro j m _ h; omega
  | succ n ih =>
    intro t m ht hn ho hm
    rw [X4_spreadF_3]
    by_cases h8 : t = 8
    · subst h8
      simp (disch := omega) only [leT, leF, ltT, ltF, eqT, eqF, inT, n_cl, nI_add, pk_mul, n_div, pk_sub, md8, Bool.true_eq_false, Bool.false_eq_true, L0, L1, L2, L3, L4, L5, L6, L7, L8, L9, L10, L20, L31, L40, L64, L99, L100, L255, L256, L999, L1000, L99999, ↓reduceIte]
      obtain ⟨m', a1, a2, a3⟩ := spF_39 (r := r) (ok := ok) (kn := kn) (B := B) hx hB hr hd hok hI 10000 0 (pI m 3 (B + x) (nI 0)) (nI 1) (by decide) (by decide) (FrB_ro (by decide) (FrB_1 hx m _) ho) (fun u hu => by
        rw [rI]
        show _ = nI (D00 x u)
        unfold D00
        by_cases q : u = x
        · subst q; rw [if_pos ⟨rfl, rfl⟩, if_pos rfl]
        · rw [if_neg (by rintro ⟨_, z⟩; omega), if_neg q]; exact hm u hu) (.inl rfl)
      exact ⟨m', a1, a2, FrB_t (FrB_1 hx m _) a3⟩
    · have ht8 : t < 8 := by omega
      simp (disch := omega) only [leT, leF, ltT, ltF, eqT, eqF, inT, n_cl, nI_add, pk_mul, n_div, pk_sub, md8, Bool.true_eq_false, Bool.false_eq_true, L0, L1, L2, L3, L4, L5, L6, L7, L8, L9, L10, L20, L31, L40, L64, L99, L100, L255, L256, L999, L1000, L99999, ↓reduceIte]
      obtain ⟨m', a1, a2, a3⟩ := ih (t + 1) (pI m 3 (B + t) (nI 999)) (by omega) (by omega) (FrB_ro (by decide) (FrB_1 ht8 m _) ho) (fun u hu => by
        rw [rI]
        by_cases q : u = t
        · subst q; rw [if_pos ⟨rfl, rfl⟩]
        · rw [if_neg (by rintro ⟨_, z⟩; omega)]; exact hm u (by omega))
      exact ⟨m', a1, a2, FrB_t (FrB_1 ht8 m _) a3⟩
theorem spS_83 {r : Nat → Nat} {ok : Nat → Bool} {kn v6 : Int32} {B w : Nat} {D0 : Nat → Nat} (k39 : Int32 → Int32 → Int32 → Int32 → Mem → Option (Mem)) (k57 : Int32 → Int32 → Int32 → Int32 → Int32 → Mem → Option (Mem)) (hB : B + 8 ≤ 8) (hw : w < 8) (hr : ∀ k, k < 64 → r k ≤ 99) (hd : r (8 * w + w) = 0) (hD : ∀ u, u < 8 → D0 u ≤ 999) (hok : ∀ t, t < 8 → ok t = bp kn t) :
    ∀ n t m v5, t ≤ 8 → 8 - t < n → Ro m 2 r → Rw m 4 B (rln (er r) ok D0 (8 * w + t)) → Fl (er r) ok D0 v5 (8 * w + t) → rln (er r) ok D0 (8 * w + t) w < 999 →
    ∃ m' v5', X4_spreadS_83 k39 k57 n kn (nI B) v5 v6 (nI w) (nI t) m = k57 kn (nI B) v5' v6 (nI (w + 1)) m' ∧ Rw m' 4 B (rln (er r) ok D0 (8 * (w + 1))) ∧ Fl (er r) ok D0 v5' (8 * (w + 1)) ∧ FrB 4 B m m' := by
  intro n
  induction n with
  | zero => intro t m v5 _ h; omega
  | succ n ih =>
    intro t m v5 ht hn ho hm hf hw9
    rw [X4_spreadS_83]
    by_cases h8 : t = 8
    · subst h8
      simp (disch := omega) only [leT, leF, ltT, ltF, eqT, eqF, inT, n_cl, nI_add, pk_mul, n_div, pk_sub, md8, Bool.true_eq_false, Bool.false_eq_true, L0, L1, L2, L3, L4, L5, L6, L7, L8, L9, L10, L20, L31, L40, L64, L99, L100, L255, L256, L999, L1000, L99999, ↓reduceIte, X4_spreadS_168]
      exact ⟨m, v5, rfl, hm, hf, FrB_r m⟩
    · have hk : 8 * w + t < 64 := by omega
      have ht8 : t < 8 := by omega
      have eix : w * 8 + t = 8 * w + t := by omega
      have e0 := ho (8 * w + t) hk
      have hrl := hr (8 * w + t) hk
      have hwv := hm w hw
      have htv := hm t ht8
      have hDt := rln_d (e := er r) (ok := ok) hD (8 * w + t) (u := t) ht8
      have e1 : (8 * w + t) / 8 = w := by omega
      have e2 : (8 * w + t) % 8 = t := by omega
      have go : rln (er r) ok D0 (8 * w + t + 1) = rln (er r) ok D0 (8 * w + t) → ∃ m' v5', X4_spreadS_83 k39 k57 n kn (nI B) v5 v6 (nI w) (nI (t + 1)) m = k57 kn (nI B) v5' v6 (nI (w + 1)) m' ∧ Rw m' 4 B (rln (er r) ok D0 (8 * (w + 1))) ∧ Fl (er r) ok D0 v5' (8 * (w + 1)) ∧ FrB 4 B m m' := by
        intro g
        exact ih (t + 1) m v5 (by omega) (by omega) ho (by rw [show 8 * w + (t + 1) = 8 * w + t + 1 from rfl, g]; exact hm) (Fl_no hf g) (by rw [show 8 * w + (t + 1) = 8 * w + t + 1 from rfl, g]; exact hw9)
      by_cases c1 : r (8 * w + t) = 0
      · simp (disch := omega) only [leT, leF, ltT, ltF, eqT, eqF, inT, n_cl, nI_add, pk_mul, n_div, pk_sub, md8, Bool.true_eq_false, Bool.false_eq_true, L0, L1, L2, L3, L4, L5, L6, L7, L8, L9, L10, L20, L31, L40, L64, L99, L100, L255, L256, L999, L1000, L99999, ↓reduceIte, eix, e0, X4_spreadS_162]
        exact go (rl_no (by rw [e1, e2]; exact fun q => q.1 c1))
      · by_cases c2 : bp kn t = false
        · simp (disch := omega) only [leT, leF, ltT, ltF, eqT, eqF, inT, n_cl, nI_add, pk_mul, n_div, pk_sub, md8, Bool.true_eq_false, Bool.false_eq_true, L0, L1, L2, L3, L4, L5, L6, L7, L8, L9, L10, L20, L31, L40, L64, L99, L100, L255, L256, L999, L1000, L99999, ↓reduceIte, eix, e0, X4_spreadS_162, bp_f, c2]
          exact go (rl_no (by rw [e1, e2, hok t ht8, c2]; exact fun q => absurd q.2.1 (by decide)))
        · by_cases c3 : rln (er r) ok D0 (8 * w + t) t ≤ rln (er r) ok D0 (8 * w + t) w + r (8 * w + t)
          · simp (disch := omega) only [leT, leF, ltT, ltF, eqT, eqF, inT, n_cl, nI_add, pk_mul, n_div, pk_sub, md8, Bool.true_eq_false, Bool.false_eq_true, L0, L1, L2, L3, L4, L5, L6, L7, L8, L9, L10, L20, L31, L40, L64, L99, L100, L255, L256, L999, L1000, L99999, ↓reduceIte, eix, e0, X4_spreadS_162, bp_f, c2, hwv, htv]
            exact go (rl_no (by rw [e1, e2]; exact fun q => by have : rln (er r) ok D0 (8 * w + t) w + r (8 * w + t) < _ := q.2.2.2; omega))
          · simp (disch := omega) only [leT, leF, ltT, ltF, eqT, eqF, inT, n_cl, nI_add, pk_mul, n_div, pk_sub, md8, Bool.true_eq_false, Bool.false_eq_true, L0, L1, L2, L3, L4, L5, L6, L7, L8, L9, L10, L20, L31, L40, L64, L99, L100, L255, L256, L999, L1000, L99999, ↓reduceIte, eix, e0, X4_spreadS_162, bp_f, c2, hwv, htv]
            have hc : er r w t ≠ 0 ∧ ok t = true ∧ rln (er r) ok D0 (8 * w + t) w < 999 ∧ rln (er r) ok D0 (8 * w + t) w + er r w t < rln (er r) ok D0 (8 * w + t) t := ⟨c1, by rw [hok t ht8]; simpa using c2, hw9, by show rln (er r) ok D0 (8 * w + t) w + r (8 * w + t) < _; omega⟩
            have hwt : w ≠ t := by
              intro q
              subst q
              exact c1 hd
            obtain ⟨m', v5', a1, a2, a3, a4⟩ := ih (t + 1) (pI m 4 (B + t) (nI (rln (er r) ok D0 (8 * w + t) w + r (8 * w + t)))) (nI 1) (by omega) (by omega) (FrB_ro (by decide) (FrB_1 ht8 m _) ho) (Rw_yes hw ht8 hm hc) (Fl_yes hw ht8 hc) (by
              rw [show 8 * w + (t + 1) = 8 * w + t + 1 from rfl, rln, rl_yes (by rw [e1, e2]; exact hc), e2, if_neg hwt]; exact hw9)
            exact ⟨m', v5', a1, a2, a3, FrB_t (FrB_1 ht8 m _) a4⟩
theorem spS_57 {r : Nat → Nat} {ok : Nat → Bool} {kn v6 : Int32} {B : Nat} {D0 : Nat → Nat} (k39 : Int32 → Int32 → Int32 → Int32 → Mem → Option (Mem)) (hB : B + 8 ≤ 8) (hr : ∀ k, k < 64 → r k ≤ 99) (hd : ∀ w, w < 8 → r (9 * w) = 0) (hD : ∀ u, u < 8 → D0 u ≤ 999) (hok : ∀ t, t < 8 → ok t = bp kn t) :
    ∀ n w m v5, w ≤ 8 → 8 - w < n → Ro m 2 r → Rw m 4 B (rln (er r) ok D0 (8 * w)) → Fl (er r) ok D0 v5 (8 * w) →
    ∃ m' v5', X4_spreadS_57 k39 n kn (nI B) v5 v6 (nI w) m = k39 kn (nI B) v5' (v6 + 1) m' ∧ Rw m' 4 B (rln (er r) ok D0 64) ∧ Fl (er r) ok D0 v5' 64 ∧ FrB 4 B m m' := by
  intro n
  induction n with
  | zero => intro w m v5 _ h; omega
  | succ n ih =>
    intro w m v5 hw hn ho hm hf
    rw [X4_spreadS_57]
    by_cases h8 : w = 8
    · subst h8
      simp (disch := omega) only [leT, leF, ltT, ltF, eqT, eqF, inT, n_cl, nI_add, pk_mul, n_div, pk_sub, md8, Bool.true_eq_false, Bool.false_eq_true, L0, L1, L2, L3, L4, L5, L6, L7, L8, L9, L10, L20, L31, L40, L64, L99, L100, L255, L256, L999, L1000, L99999, ↓reduceIte]
      exact ⟨m, v5, rfl, hm, hf, FrB_r m⟩
    · have hw8 : w < 8 := by omega
      have hdw := rln_d (e := er r) (ok := ok) hD (8 * w) (u := w) hw8
      have hwv := hm w hw8
      by_cases c : rln (er r) ok D0 (8 * w) w = 999
      · simp (disch := omega) only [leT, leF, ltT, ltF, eqT, eqF, inT, n_cl, nI_add, pk_mul, n_div, pk_sub, md8, Bool.true_eq_false, Bool.false_eq_true, L0, L1, L2, L3, L4, L5, L6, L7, L8, L9, L10, L20, L31, L40, L64, L99, L100, L255, L256, L999, L1000, L99999, ↓reduceIte, hwv, X4_spreadS_168]
        have g := rln_sk (r := r) (ok := ok) (D0 := D0) (w := w) (by omega) 8 (by decide)
        have g' : rln (er r) ok D0 (8 * (w + 1)) = rln (er r) ok D0 (8 * w) := g
        exact ih (w + 1) m v5 (by omega) (by omega) ho (by rw [g']; exact hm) (by unfold Fl; rw [g']; exact hf)
      · simp (disch := omega) only [leT, leF, ltT, ltF, eqT, eqF, inT, n_cl, nI_add, pk_mul, n_div, pk_sub, md8, Bool.true_eq_false, Bool.false_eq_true, L0, L1, L2, L3, L4, L5, L6, L7, L8, L9, L10, L20, L31, L40, L64, L99, L100, L255, L256, L999, L1000, L99999, ↓reduceIte, hwv]
        obtain ⟨m', v5', a1, a2, a3, a4⟩ := spS_83 (r := r) (ok := ok) (kn := kn) (v6 := v6) (B := B) (w := w) (D0 := D0) k39 (X4_spreadS_57 k39 n) hB hw8 hr (by have := hd w hw8; rw [show 8 * w + w = 9 * w by omega]; exact this) hD hok 10000 0 m v5 (by decide) (by decide) ho hm hf (by show rln (er r) ok D0 (8 * w) w < 999; omega)
        rw [a1]
        obtain ⟨m2, v2, b1, b2, b3, b4⟩ := ih (w + 1) m' v5' (by omega) (by omega) (FrB_ro (by decide) a4 ho) a2 a3
        exact ⟨m2, v2, b1, b2, b3, FrB_t a4 b4⟩
theorem spS_39 {r : Nat → Nat} {ok : Nat → Bool} {kn : Int32} {B x : Nat} {D : Nat → Nat} (hx : x < 8) (hB : B + 8 ≤ 8) (hr : ∀ k, k < 64 → r k ≤ 99) (hd : ∀ w, w < 8 → r (9 * w) = 0) (hok : ∀ t, t < 8 → ok t = bp kn t) (hI : IsD (er r) ok x D) :
    ∀ n j m v5, j ≤ 8 → 8 - j < n → Ro m 2 r → Rw m 4 B (itD (er r) ok (D00 x) j) → (v5 = nI 1 ∨ v5 = nI 0 ∧ ∀ u, u < 8 → itD (er r) ok (D00 x) j u = D u) →
    ∃ m', X4_spreadS_39 n kn (nI B) v5 (nI j) m = some m' ∧ Rw m' 4 B D ∧ FrB 4 B m m' := by
  intro n
  induction n with
  | zero => intro j m v5 _ h; omega
  | succ n ih =>
    intro j m v5 hj hn ho hm hf
    rw [X4_spreadS_39]
    by_cases h8 : j = 8
    · subst h8
      simp (disch := omega) only [leT, leF, ltT, ltF, eqT, eqF, inT, n_cl, nI_add, pk_mul, n_div, pk_sub, md8, Bool.true_eq_false, Bool.false_eq_true, L0, L1, L2, L3, L4, L5, L6, L7, L8, L9, L10, L20, L31, L40, L64, L99, L100, L255, L256, L999, L1000, L99999, ↓reduceIte]
      exact ⟨m, rfl, fun t ht => by rw [hm t ht, itD_8 hx (D00_at _ _ x) hI t ht], FrB_r m⟩
    · rcases hf with hf | ⟨hf, hf2⟩
      · simp (disch := omega) only [leT, leF, ltT, ltF, eqT, eqF, inT, n_cl, nI_add, pk_mul, n_div, pk_sub, md8, Bool.true_eq_false, Bool.false_eq_true, L0, L1, L2, L3, L4, L5, L6, L7, L8, L9, L10, L20, L31, L40, L64, L99, L100, L255, L256, L999, L1000, L99999, ↓reduceIte, hf]
        have hA := itD_at (D00_at (er r) ok x) j
        obtain ⟨m', v5', a1, a2, a3, a4⟩ := spS_57 (r := r) (ok := ok) (kn := kn) (v6 := nI j) (B := B) (D0 := itD (er r) ok (D00 x) j) (X4_spreadS_39 n) hB hr hd (fun u hu => (hA.2 u hu).1) hok 10000 0 m (nI 0) (by decide) (by decide) ho hm (.inl ⟨rfl, fun _ _ => rfl⟩)
        rw [a1, show nI j + (1 : Int32) = nI (j + 1) from nI_1 j]
        obtain ⟨m2, b1, b2, b3⟩ := ih (j + 1) m' v5' (by omega) (by omega) (FrB_ro (by decide) a4 ho) a2 (by
          rcases a3 with ⟨a3, q⟩ | ⟨a3, _⟩
          · right
            refine ⟨a3, fun u hu => ?_⟩
            have := IsD_u (⟨hA, rln_cl q⟩ : IsD (er r) ok x _) hI u hu
            rw [itD, q u hu, this]
          · exact .inl a3)
        exact ⟨m2, b1, b2, FrB_t a4 b3⟩
      · simp (disch := omega) only [leT, leF, ltT, ltF, eqT, eqF, inT, n_cl, nI_add, pk_mul, n_div, pk_sub, md8, Bool.true_eq_false, Bool.false_eq_true, L0, L1, L2, L3, L4, L5, L6, L7, L8, L9, L10, L20, L31, L40, L64, L99, L100, L255, L256, L999, L1000, L99999, ↓reduceIte, hf]
        exact ⟨m, rfl, fun t ht => by rw [hm t ht, hf2 t ht], FrB_r m⟩
theorem spS_3 {r : Nat → Nat} {ok : Nat → Bool} {kn : Int32} {B x : Nat} {D : Nat → Nat} (hx : x < 8) (hB : B + 8 ≤ 8) (hr : ∀ k, k < 64 → r k ≤ 99) (hd : ∀ w, w < 8 → r (9 * w) = 0) (hok : ∀ t, t < 8 → ok t = bp kn t) (hI : IsD (er r) ok x D) :
    ∀ n t m, t ≤ 8 → 8 - t < n → Ro m 2 r → (∀ u, u < t → m.1 4 (B + u) = nI 999) →
    ∃ m', X4_spreadS_3 n (nI x) kn (nI B) (nI t) m = some m' ∧ Rw m' 4 B D ∧ FrB 4 B m m' := by
  intro n
  induction n with
  | zero => intro j m _ h; omega
  | succ n ih =>
    intro t m ht hn ho hm
    rw [X4_spreadS_3]
    by_cases h8 : t = 8
    · subst h8
      simp (disch := omega) only [leT, leF, ltT, ltF, eqT, eqF, inT, n_cl, nI_add, pk_mul, n_div, pk_sub, md8, Bool.true_eq_false, Bool.false_eq_true, L0, L1, L2, L3, L4, L5, L6, L7, L8, L9, L10, L20, L31, L40, L64, L99, L100, L255, L256, L999, L1000, L99999, ↓reduceIte]
      obtain ⟨m', a1, a2, a3⟩ := spS_39 (r := r) (ok := ok) (kn := kn) (B := B) hx hB hr hd hok hI 10000 0 (pI m 4 (B + x) (nI 0)) (nI 1) (by decide) (by decide) (FrB_ro (by decide) (FrB_1 hx m _) ho) (fun u hu => by
        rw [rI]
        show _ = nI (D00 x u)
        unfold D00
        by_cases q : u = x
        · subst q; rw [if_pos ⟨rfl, rfl⟩, if_pos rfl]
        · rw [if_neg (by rintro ⟨_, z⟩; omega), if_neg q]; exact hm u hu) (.inl rfl)
      exact ⟨m', a1, a2, FrB_t (FrB_1 hx m _) a3⟩
    · have ht8 : t < 8 := by omega
      simp (disch := omega) only [leT, leF, ltT, ltF, eqT, eqF, inT, n_cl, nI_add, pk_mul, n_div, pk_sub, md8, Bool.true_eq_false, Bool.false_eq_true, L0, L1, L2, L3, L4, L5, L6, L7, L8, L9, L10, L20, L31, L40, L64, L99, L100, L255, L256, L999, L1000, L99999, ↓reduceIte]
      obtain ⟨m', a1, a2, a3⟩ := ih (t + 1) (pI m 4 (B + t) (nI 999)) (by omega) (by omega) (FrB_ro (by decide) (FrB_1 ht8 m _) ho) (fun u hu => by
        rw [rI]
        by_cases q : u = t
        · subst q; rw [if_pos ⟨rfl, rfl⟩]
        · rw [if_neg (by rintro ⟨_, z⟩; omega)]; exact hm u (by omega))
      exact ⟨m', a1, a2, FrB_t (FrB_1 ht8 m _) a3⟩
