/-! HOW FAR: what both make of roads -/
def PL (e : Nat → Nat → Nat) (ok : Nat → Bool) (x : Nat) : Nat → Nat → Nat → Prop
  | 0, t, l => t = x ∧ l = 0
  | k + 1, t, l => ∃ w l', w < 8 ∧ PL e ok x k w l' ∧ e w t ≠ 0 ∧ ok t = true ∧ l = l' + e w t
/-- all that is told is a way's length -/
def AtD (e : Nat → Nat → Nat) (ok : Nat → Bool) (x : Nat) (D : Nat → Nat) : Prop := D x = 0 ∧ ∀ t, t < 8 → D t ≤ 999 ∧ (D t < 999 → ∃ k, PL e ok x k t (D t))
def ClD (e : Nat → Nat → Nat) (ok : Nat → Bool) (D : Nat → Nat) : Prop := ∀ w t, w < 8 → t < 8 → e w t ≠ 0 → ok t = true → D w < 999 → D t ≤ D w + e w t
def IsD (e : Nat → Nat → Nat) (ok : Nat → Bool) (x : Nat) (D : Nat → Nat) : Prop := AtD e ok x D ∧ ClD e ok D
section
variable {e : Nat → Nat → Nat} {ok : Nat → Bool} {x : Nat}
theorem PL_ge {D : Nat → Nat} (h0 : D x = 0) (hc : ClD e ok D) : ∀ k t l, t < 8 → l < 999 → PL e ok x k t l → D t ≤ l := by
  intro k
  induction k with
  | zero => intro t l _ _ h; rw [h.1, h0]; omega
  | succ k ih =>
    intro t l ht hl h
    obtain ⟨w, l', h1, h2, h3, h4, h5⟩ := h
    have := ih w l' h1 (by omega) h2
    have := hc w t h1 ht h3 h4 (by omega)
    omega
theorem IsD_le {D D' : Nat → Nat} (h : IsD e ok x D) (h' : AtD e ok x D') : ∀ t, t < 8 → D t ≤ D' t := by
  intro t ht
  obtain ⟨a1, a2⟩ := h'.2 t ht
  by_cases hl : D' t < 999
  · obtain ⟨k, hk⟩ := a2 hl
    exact PL_ge h.1.1 h.2 k t _ ht hl hk
  · have := (h.1.2 t ht).1; omega
theorem IsD_u {D D' : Nat → Nat} (h : IsD e ok x D) (h' : IsD e ok x D') : ∀ t, t < 8 → D t = D' t := fun t ht => Nat.le_antisymm (IsD_le h h'.1 t ht) (IsD_le h' h.1 t ht)
def cnt (D : Nat → Nat) (v : Nat) : Nat → Nat
  | 0 => 0
  | n + 1 => cnt D v n + if D n < v then 1 else 0
theorem cnt_le (D : Nat → Nat) {v v' : Nat} (h : v ≤ v') : ∀ n, cnt D v n ≤ cnt D v' n := by
  intro n
  induction n with
  | zero => exact Nat.le_refl _
  | succ n ih =>
    rw [cnt, cnt]
    by_cases h1 : D n < v
    · rw [if_pos h1, if_pos (by omega)]; omega
    · rw [if_neg h1]; omega
theorem cnt_lt (D : Nat → Nat) {v v' u : Nat} (h : v ≤ v') (h1 : v ≤ D u) (h2 : D u < v') : ∀ n, u < n → cnt D v n < cnt D v' n := by
  intro n
  induction n with
  | zero => intro h; omega
  | succ n ih =>
    intro hu
    rw [cnt, cnt]
    by_cases hn : u = n
    · subst hn
      have := cnt_le D h u
      rw [if_neg (by omega), if_pos h2]; omega
    · have := ih (by omega)
      by_cases h3 : D n < v
      · rw [if_pos h3, if_pos (by omega)]; omega
      · rw [if_neg h3]; omega
theorem cnt_n (D : Nat → Nat) (v : Nat) : ∀ n, cnt D v n ≤ n := by
  intro n
  induction n with
  | zero => exact Nat.le_refl _
  | succ n ih => rw [cnt]; split <;> omega
theorem cnt_8 (D : Nat → Nat) {v u : Nat} (h : v ≤ D u) : ∀ n, u < n → cnt D v n < n := by
  intro n
  induction n with
  | zero => intro h; omega
  | succ n ih =>
    intro hu
    rw [cnt]
    by_cases hn : u = n
    · subst hn
      have := cnt_n D v u
      rw [if_neg (by omega)]; omega
    · have := ih (by omega)
      split <;> omega
/-- one road is tried -/
def rl (e : Nat → Nat → Nat) (ok : Nat → Bool) (D : Nat → Nat) (k : Nat) : Nat → Nat := fun u => if (e (k / 8) (k % 8) ≠ 0 ∧ ok (k % 8) = true ∧ D (k / 8) < 999 ∧ D (k / 8) + e (k / 8) (k % 8) < D (k % 8)) ∧ u = k % 8 then D (k / 8) + e (k / 8) (k % 8) else D u
def rln (e : Nat → Nat → Nat) (ok : Nat → Bool) (D : Nat → Nat) : Nat → Nat → Nat
  | 0 => D
  | n + 1 => rl e ok (rln e ok D n) n
theorem rl_le (D : Nat → Nat) (k u : Nat) : rl e ok D k u ≤ D u := by
  unfold rl
  by_cases h : (e (k / 8) (k % 8) ≠ 0 ∧ ok (k % 8) = true ∧ D (k / 8) < 999 ∧ D (k / 8) + e (k / 8) (k % 8) < D (k % 8)) ∧ u = k % 8
  · rw [if_pos h, h.2]; omega
  · rw [if_neg h]; omega
theorem rln_mono (D : Nat → Nat) (u : Nat) : ∀ n k, k ≤ n → rln e ok D n u ≤ rln e ok D k u := by
  intro n
  induction n with
  | zero => intro k h; have : k = 0 := by omega
            subst this; exact Nat.le_refl _
  | succ n ih =>
    intro k h
    by_cases hk : k = n + 1
    · subst hk; exact Nat.le_refl _
    · have h1 := ih k (by omega)
      have h2 := rl_le (e := e) (ok := ok) (rln e ok D n) n u
      rw [rln]; omega
theorem rl_at {D : Nat → Nat} {k : Nat} (hk : k < 64) (h : AtD e ok x D) : AtD e ok x (rl e ok D k) := by
  obtain ⟨h0, h1⟩ := h
  constructor
  · unfold rl
    rw [if_neg]; exact h0
    rintro ⟨⟨_, _, _, h4⟩, h5⟩
    rw [← h5, h0] at h4; omega
  · intro t ht
    unfold rl
    by_cases hc : (e (k / 8) (k % 8) ≠ 0 ∧ ok (k % 8) = true ∧ D (k / 8) < 999 ∧ D (k / 8) + e (k / 8) (k % 8) < D (k % 8)) ∧ t = k % 8
    · rw [if_pos hc]
      obtain ⟨⟨c1, c2, c3, c4⟩, c5⟩ := hc
      have := (h1 t ht).1
      rw [← c5] at c4 ⊢
      refine ⟨by omega, fun _ => ?_⟩
      obtain ⟨j, hj⟩ := (h1 (k / 8) (by omega)).2 c3
      exact ⟨j + 1, k / 8, _, by omega, hj, by rw [c5]; exact c1, by rw [c5]; exact c2, rfl⟩
    · rw [if_neg hc]; exact h1 t ht
theorem rln_at {D : Nat → Nat} (h : AtD e ok x D) : ∀ n, n ≤ 64 → AtD e ok x (rln e ok D n) := by
  intro n
  induction n with
  | zero => intro _; exact h
  | succ n ih => intro hn; exact rl_at (by omega) (ih (by omega))
theorem rl_step (D : Nat → Nat) {k : Nat} (h1 : e (k / 8) (k % 8) ≠ 0) (h2 : ok (k % 8) = true) (h3 : D (k / 8) < 999) : rl e ok D k (k % 8) ≤ D (k / 8) + e (k / 8) (k % 8) := by
  unfold rl
  by_cases h4 : D (k / 8) + e (k / 8) (k % 8) < D (k % 8)
  · rw [if_pos ⟨⟨h1, h2, h3, h4⟩, rfl⟩]; omega
  · rw [if_neg (fun q => h4 q.1.2.2.2)]; omega
/-- nothing came nearer -/
theorem rln_same {D : Nat → Nat} : ∀ n, n ≤ 64 → (∀ u, u < 8 → rln e ok D n u = D u) → ∀ k, k < n → (∀ u, u < 8 → rln e ok D k u = D u) := by
  intro n hn h k hk u hu
  have h1 := rln_mono (e := e) (ok := ok) D u n k (by omega)
  have h2 := rln_mono (e := e) (ok := ok) D u k 0 (by omega)
  have h3 := h u hu
  have h4 : rln e ok D 0 u = D u := rfl
  omega
theorem rln_cl {D : Nat → Nat} (h : ∀ u, u < 8 → rln e ok D 64 u = D u) : ClD e ok D := by
  intro w t hw ht h1 h2 h3
  have hk : 8 * w + t < 64 := by omega
  have e1 : (8 * w + t) / 8 = w := by omega
  have e2 : (8 * w + t) % 8 = t := by omega
  have s1 := rln_same 64 (by decide) h (8 * w + t) hk
  have s2 := rln_mono (e := e) (ok := ok) D t 64 (8 * w + t + 1) (by omega)
  have s3 := rl_step (e := e) (ok := ok) (rln e ok D (8 * w + t)) (k := 8 * w + t) (by rw [e1, e2]; exact h1) (by rw [e2]; exact h2) (by rw [e1, s1 w hw]; exact h3)
  rw [e1, e2, s1 w hw] at s3
  have s4 : rln e ok D (8 * w + t + 1) t = rl e ok (rln e ok D (8 * w + t)) (8 * w + t) t := rfl
  have := h t ht
  omega
def itD (e : Nat → Nat → Nat) (ok : Nat → Bool) (D : Nat → Nat) : Nat → Nat → Nat
  | 0 => D
  | j + 1 => rln e ok (itD e ok D j) 64
theorem itD_at {D : Nat → Nat} (h : AtD e ok x D) : ∀ j, AtD e ok x (itD e ok D j) := by
  intro j
  induction j with
  | zero => exact h
  | succ j ih => exact rln_at ih 64 (by decide)
theorem itD_rank {D0 D : Nat → Nat} (hx : x < 8) (h0 : AtD e ok x D0) (h : IsD e ok x D) : ∀ j t, t < 8 → D t < 999 → cnt D (D t) 8 ≤ j → itD e ok D0 j t ≤ D t := by
  intro j
  induction j with
  | zero =>
    intro t ht hl hr
    obtain ⟨k, hk⟩ := (h.1.2 t ht).2 hl
    cases k with
    | zero => rw [hk.1]; show D0 x ≤ _; rw [h0.1]; omega
    | succ k =>
      obtain ⟨w, l', g1, g2, g3, g4, g5⟩ := hk
      exfalso
      have := cnt_lt D (v := 0) (v' := D t) (u := x) (by omega) (by omega) (by rw [h.1.1]; omega) 8 hx
      omega
  | succ j ih =>
    intro t ht hl hr
    obtain ⟨k, hk⟩ := (h.1.2 t ht).2 hl
    cases k with
    | zero => rw [hk.1, (itD_at h0 (j + 1)).1]; omega
    | succ k =>
      obtain ⟨w, l', g1, g2, g3, g4, g5⟩ := hk
      have hw := PL_ge h.1.1 h.2 k w l' g1 (by omega) g2
      have c1 := cnt_lt D (v := D w) (v' := D t) (u := w) (by omega) (Nat.le_refl _) (by omega) 8 g1
      have i1 := ih w g1 (by omega) (by omega)
      have e1 : (8 * w + t) / 8 = w := by omega
      have e2 : (8 * w + t) % 8 = t := by omega
      have s0 := rln_mono (e := e) (ok := ok) (itD e ok D0 j) w (8 * w + t) 0 (by omega)
      have s0' : rln e ok (itD e ok D0 j) 0 w = itD e ok D0 j w := rfl
      have s2 := rln_mono (e := e) (ok := ok) (itD e ok D0 j) t 64 (8 * w + t + 1) (by omega)
      have s3 := rl_step (e := e) (ok := ok) (rln e ok (itD e ok D0 j) (8 * w + t)) (k := 8 * w + t) (by rw [e1, e2]; exact g3) (by rw [e2]; exact g4) (by rw [e1]; omega)
      rw [e1, e2] at s3
      have s4 : rln e ok (itD e ok D0 j) (8 * w + t + 1) t = rl e ok (rln e ok (itD e ok D0 j) (8 * w + t)) (8 * w + t) t := rfl
      rw [itD]
      omega
theorem itD_8 {D0 D : Nat → Nat} (hx : x < 8) (h0 : AtD e ok x D0) (h : IsD e ok x D) : ∀ t, t < 8 → itD e ok D0 8 t = D t := by
  intro t ht
  apply Nat.le_antisymm
  · by_cases hl : D t < 999
    · have := cnt_8 D (v := D t) (u := t) (Nat.le_refl _) 8 ht
      exact itD_rank hx h0 h 8 t ht hl (by omega)
    · have := ((itD_at h0 8).2 t ht).1; omega
  · exact IsD_le h (itD_at h0 8) t ht
theorem PL_cat {a b c : Nat} (ha : a < 8) : ∀ k2 k1 l1 l2, PL e ok a k1 b l1 → PL e ok b k2 c l2 → ∃ k, PL e ok a k c (l1 + l2) := by
  intro k2
  induction k2 generalizing c with
  | zero => intro k1 l1 l2 h1 h2; rw [h2.1, h2.2]; exact ⟨k1, h1⟩
  | succ k2 ih =>
    intro k1 l1 l2 h1 h2
    obtain ⟨w, l', g1, g2, g3, g4, g5⟩ := h2
    obtain ⟨k, hk⟩ := ih k1 l1 l' h1 g2
    exact ⟨k + 1, w, l1 + l', g1, hk, g3, g4, by omega⟩
end
/-! the table -/
def fw0 (r : Nat → Nat) (k : Nat) : Nat := if k / 8 = k % 8 then 0 else if r k = 0 then 999 else r k
def fw1 (D : Nat → Nat) (c k : Nat) : Nat := min (D k) (D (8 * (k / 8) + c) + D (8 * c + k % 8))
def fwN (r : Nat → Nat) : Nat → Nat → Nat
  | 0 => fw0 r
  | c + 1 => fw1 (fwN r c) c
/-- how far it is, by roads r -/
def fwD (r : Nat → Nat) : Nat → Nat := fwN r 8
theorem fw_tri (r : Nat → Nat) : ∀ c, c ≤ 8 → ∀ i j w, i < 8 → j < 8 → w < c → fwN r c (8 * i + j) ≤ fwN r c (8 * i + w) + fwN r c (8 * w + j) := by
  intro c
  induction c with
  | zero => intro _ i j w _ _ h; omega
  | succ c ih =>
    intro hc i j w hi hj hw
    have q : ∀ a b', a < 8 → b' < 8 → fwN r (c + 1) (8 * a + b') = min (fwN r c (8 * a + b')) (fwN r c (8 * a + c) + fwN r c (8 * c + b')) := by
      intro a b' ha hb
      rw [fwN, fw1, show (8 * a + b') / 8 = a by omega, show (8 * a + b') % 8 = b' by omega]
    rw [q i j hi hj, q i w hi (by omega), q w j (by omega) hj]
    by_cases hwc : w = c
    · subst hwc; omega
    · have t1 := ih (by omega) i j w hi hj (by omega)
      have t2 := ih (by omega) c j w (by omega) hj (by omega)
      have t3 := ih (by omega) i c w hi (by omega) (by omega)
      omega
theorem fw_le (r : Nat → Nat) : ∀ c k, fwN r c k ≤ fw0 r k := by
  intro c
  induction c with
  | zero => intro k; exact Nat.le_refl _
  | succ c ih => intro k; have := ih k; rw [fwN, fw1]; omega
theorem fw_at (r : Nat → Nat) (hd : ∀ w, w < 8 → r (9 * w) = 0) : ∀ c, c ≤ 8 → ∀ i j, i < 8 → j < 8 → fwN r c (8 * i + j) < 999 → ∃ k, PL (fun w t => r (8 * w + t)) (fun _ => true) i k j (fwN r c (8 * i + j)) := by
  intro c
  induction c with
  | zero =>
    intro _ i j hi hj h
    rw [fwN, fw0, show (8 * i + j) / 8 = i by omega, show (8 * i + j) % 8 = j by omega] at h ⊢
    by_cases hij : i = j
    · rw [if_pos hij]; exact ⟨0, hij.symm, rfl⟩
    · rw [if_neg hij] at h ⊢
      by_cases h0 : r (8 * i + j) = 0
      · rw [if_pos h0] at h; omega
      · rw [if_neg h0]; exact ⟨1, i, 0, hi, ⟨rfl, rfl⟩, h0, rfl, (Nat.zero_add _).symm⟩
  | succ c ih =>
    intro hc i j hi hj h
    rw [fwN, fw1, show (8 * i + j) / 8 = i by omega, show (8 * i + j) % 8 = j by omega] at h ⊢
    by_cases hm : fwN r c (8 * i + j) ≤ fwN r c (8 * i + c) + fwN r c (8 * c + j)
    · rw [Nat.min_eq_left hm] at h ⊢
      exact ih (by omega) i j hi hj h
    · rw [Nat.min_eq_right (by omega)] at h ⊢
      obtain ⟨k1, h1⟩ := ih (by omega) i c hi (by omega) (by omega)
      obtain ⟨k2, h2⟩ := ih (by omega) c j (by omega) hj (by omega)
      exact PL_cat hi k2 k1 _ _ h1 h2
theorem fwD_is (r : Nat → Nat) (hd : ∀ w, w < 8 → r (9 * w) = 0) (hr : ∀ k, k < 64 → r k ≤ 99) {x : Nat} (hx : x < 8) : IsD (fun w t => r (8 * w + t)) (fun _ => true) x (fun t => fwD r (8 * x + t)) := by
  have h999 : ∀ t, t < 8 → fwD r (8 * x + t) ≤ 999 := by
    intro t ht
    have h1 := fw_le r 8 (8 * x + t)
    have h2 := hr (8 * x + t) (by omega)
    unfold fwD
    unfold fw0 at h1
    split at h1
    · omega
    · split at h1 <;> omega
  refine ⟨⟨?_, fun t ht => ⟨h999 t ht, fun h => fw_at r hd 8 (by decide) x t hx ht h⟩⟩, ?_⟩
  · have := fw_le r 8 (8 * x + x)
    show fwN r 8 (8 * x + x) = 0
    unfold fw0 at this
    rw [if_pos (by omega)] at this
    omega
  · intro w t hw ht h1 _ _
    have t1 := fw_tri r 8 (by decide) x t w hx ht hw
    have t2 := fw_le r 8 (8 * w + t)
    show fwN r 8 (8 * x + t) ≤ fwN r 8 (8 * x + w) + r (8 * w + t)
    unfold fw0 at t2
    by_cases hwt : w = t
    · subst hwt
      have := hd w hw
      rw [show 9 * w = 8 * w + w by omega] at this
      exact absurd this h1
    · rw [if_neg (by omega), if_neg h1] at t2
      omega
theorem fwD_le (r : Nat → Nat) (hr : ∀ k, k < 64 → r k ≤ 99) {k : Nat} (hk : k < 64) : fwD r k ≤ 999 := by
  have h1 := fw_le r 8 k
  have h2 := hr k hk
  unfold fwD
  unfold fw0 at h1
  split at h1
  · omega
  · split at h1 <;> omega
