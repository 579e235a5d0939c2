/-! TEXT: the class's tokens -/
def M00 : Mem := ((fun _ _ => 0), (fun _ _ => 0))
def chl : List Nat := wds.flatMap (fun w => w ++ [32])
def chr (k : Nat) : Nat := chl.getD k 0
theorem charAt_e : ∀ {k : Nat}, k < 63 → ∀ (m : Mem), J0_charAt_5068e 1 (nI k) m = some (nI (chr k), m)
  | 0, _, _ => rfl
  | 1, _, _ => rfl
  | 2, _, _ => rfl
  | 3, _, _ => rfl
  | 4, _, _ => rfl
  | 5, _, _ => rfl
  | 6, _, _ => rfl
  | 7, _, _ => rfl
  | 8, _, _ => rfl
  | 9, _, _ => rfl
  | 10, _, _ => rfl
  | 11, _, _ => rfl
  | 12, _, _ => rfl
  | 13, _, _ => rfl
  | 14, _, _ => rfl
  | 15, _, _ => rfl
  | 16, _, _ => rfl
  | 17, _, _ => rfl
  | 18, _, _ => rfl
  | 19, _, _ => rfl
  | 20, _, _ => rfl
  | 21, _, _ => rfl
  | 22, _, _ => rfl
  | 23, _, _ => rfl
  | 24, _, _ => rfl
  | 25, _, _ => rfl
  | 26, _, _ => rfl
  | 27, _, _ => rfl
  | 28, _, _ => rfl
  | 29, _, _ => rfl
  | 30, _, _ => rfl
  | 31, _, _ => rfl
  | 32, _, _ => rfl
  | 33, _, _ => rfl
  | 34, _, _ => rfl
  | 35, _, _ => rfl
  | 36, _, _ => rfl
  | 37, _, _ => rfl
  | 38, _, _ => rfl
  | 39, _, _ => rfl
  | 40, _, _ => rfl
  | 41, _, _ => rfl
  | 42, _, _ => rfl
  | 43, _, _ => rfl
  | 44, _, _ => rfl
  | 45, _, _ => rfl
  | 46, _, _ => rfl
  | 47, _, _ => rfl
  | 48, _, _ => rfl
  | 49, _, _ => rfl
  | 50, _, _ => rfl
  | 51, _, _ => rfl
  | 52, _, _ => rfl
  | 53, _, _ => rfl
  | 54, _, _ => rfl
  | 55, _, _ => rfl
  | 56, _, _ => rfl
  | 57, _, _ => rfl
  | 58, _, _ => rfl
  | 59, _, _ => rfl
  | 60, _, _ => rfl
  | 61, _, _ => rfl
  | 62, _, _ => rfl
  | n + 63, h, _ => absurd h (by omega)
theorem len_e (m : Mem) : J0_length_8abf5 1 m = some (nI 63, m) := rfl
theorem chr_lt : ∀ k, k < 63 → chr k < 256 := by decide +kernel
/-- the bytes that are taped -/
def Tp (m : Mem) (b : Nat → Nat) (S : Nat) : Prop := m.1 30 1 = nI S ∧ ∀ i, i < S → m.1 31 i = nI (b i)
theorem bi_s {β : Type} (r : Int32) (m : Mem) (f : Int32 → Mem → Option β) : bi (some (r, m)) f = f r m := rfl
theorem bv_s {β : Type} (m : Mem) (f : Mem → Option β) : bv (some m) f = f m := rfl
theorem tw_w {b : Nat → Nat} {S : Nat} {m : Mem} {a e : Nat} (hB : By b S) (hT : Tp m b S) (h3 : m.1 30 3 = 1) (h4 : m.1 30 4 = nI a) (h6 : m.1 30 6 = nI e) (he : e ≤ S) : ∀ (w : List Nat) (s n i v2 : Nat) (al : Bool), (∀ j, j < w.length → chr (s + j) = w.getD j 0 ∧ chr (s + j) ≠ 32) → chr (s + w.length) = 32 → s + w.length < 63 → v2 + w.length ≤ 300 → i ≤ 20 →
    X3_takeWord_69 (n + 1 + w.length) (nI i) (nI v2) (if al then 1 else 0) (nI s) m = if (al && wm b e w v2) = true then X3_takeWord_165 (X3_takeWord_69 n) (nI i) (nI (s + w.length)) (if 6 ≤ i then 3 else 10 + nI i) m else X3_takeWord_69 n (nI (i + 1)) (nI a) 1 (nI (s + w.length + 1)) m := by
  have hS := hB.hS
  intro w
  induction w with
  | nil =>
    intro s n i v2 al hw hz hs hv hi
    simp only [List.length_nil, Nat.add_zero] at hz hs hv ⊢
    rw [X3_takeWord_69, len_e, bi_s]
    rw [if_neg (show ¬ (nI 63 ≤ nI s) by rw [n_le (by decide) (by omega)]; omega), if_pos h3, charAt_e hs, bi_s, hz, if_pos (show nI 32 = 32 from rfl)]
    cases al with
    | false =>
      simp only [Bool.false_and, Bool.false_eq_true, if_false, if_true]
      unfold X3_takeWord_176 X3_takeWord_186
      rw [h4]; simp only [lit_n, nI_add]
    | true =>
      simp only [Bool.true_and, if_true, wm]
      rw [if_neg (by decide), h6]
      simp (disch := omega) only [n_eq]
      by_cases hh : v2 = e
      · subst hh
        rw [if_pos rfl, if_pos (show (v2 == v2) = true by simp)]
        simp (disch := omega) only [lit_n, n_le]
        by_cases h7 : 6 ≤ i
        · rw [if_pos h7, if_pos h7]
        · rw [if_neg h7, if_neg h7]
      · rw [if_neg hh, if_neg (by simpa using hh)]
        unfold X3_takeWord_176 X3_takeWord_186
        rw [h4]; simp only [lit_n, nI_add]
  | cons c w ih =>
    intro s n i v2 al hw hz hs hv hi
    simp only [List.length_cons] at hw hz hs hv ⊢
    have hc := hw 0 (by omega)
    simp only [Nat.add_zero, List.getD_cons_zero] at hc
    have hi2 : ∀ al', X3_takeWord_69 (n + 1 + w.length) (nI i) (nI (v2 + 1)) (if al' then 1 else 0) (nI (s + 1)) m = if (al' && wm b e w (v2 + 1)) = true then X3_takeWord_165 (X3_takeWord_69 n) (nI i) (nI (s + (w.length + 1))) (if 6 ≤ i then 3 else 10 + nI i) m else X3_takeWord_69 n (nI (i + 1)) (nI a) 1 (nI (s + (w.length + 1) + 1)) m := by
      intro al'
      have := ih (s + 1) n i (v2 + 1) al' (fun j hj => by
          have := hw (j + 1) (by omega)
          simp only [List.getD_cons_succ] at this
          rw [show s + 1 + j = s + (j + 1) by omega]; exact this) (by rw [show s + 1 + w.length = s + (w.length + 1) by omega]; exact hz) (by omega) (by omega) hi
      rw [show s + 1 + w.length = s + (w.length + 1) by omega] at this
      exact this
    rw [show n + 1 + (w.length + 1) = (n + 1 + w.length) + 1 by omega, X3_takeWord_69, len_e, bi_s]
    rw [if_neg (show ¬ (nI 63 ≤ nI s) by rw [n_le (by decide) (by omega)]; omega), if_pos h3, charAt_e (by omega), bi_s]
    have hcl := chr_lt s (by omega)
    rw [if_neg (show ¬ (nI (chr s) = 32) by rw [lit_n, n_eq (by omega) (by decide)]; exact hc.2)]
    cases al with
    | false =>
      rw [if_pos (show ((if false = true then 1 else 0 : Int32) = 0) from rfl)]
      unfold X3_takeWord_130 X3_takeWord_131 X3_takeWord_186
      have := hi2 false
      simp only [lit_n, nI_add, Bool.false_and, Bool.false_eq_true, if_false] at this ⊢
      exact this
    | true =>
      simp only [Bool.true_and, if_true, wm]
      rw [if_neg (by decide), h6]
      have t0 := hi2 false
      have t1 := hi2 true
      simp only [lit_n, nI_add, Bool.false_and, Bool.true_and, Bool.false_eq_true, if_false, if_true] at t0 t1
      by_cases hh : e ≤ v2
      · rw [if_pos (by rw [n_le (by omega) (by omega)]; exact hh), if_neg (fun q => by
          simp only [Bool.and_eq_true] at q
          have := wm_len w (v2 + 1) q.2; omega)]
        unfold X3_takeWord_130 X3_takeWord_131 X3_takeWord_186
        simp only [lit_n, nI_add]
        exact t0
      · have hb := hB.lo v2 (by omega)
        rw [if_neg (by rw [n_le (by omega) (by omega)]; exact hh), if_pos (by rw [n_inn (by omega)]; omega), n_cl (by omega), hT.2 v2 (by omega)]
        have hne : (nI (b v2) = nI (chr s)) = (b v2 = c) := by rw [n_eq (by omega) (by omega), hc.1]
        by_cases hq : b v2 = c
        · rw [if_pos (by rw [hne]; exact hq)]
          unfold X3_takeWord_131 X3_takeWord_186
          simp only [lit_n, nI_add, hq, beq_self_eq_true, Bool.true_and]
          exact t1
        · rw [if_neg (by rw [hne]; exact hq)]
          unfold X3_takeWord_130 X3_takeWord_131 X3_takeWord_186
          have hq2 : (b v2 == c) = false := by simpa using hq
          simp only [lit_n, nI_add, hq2, Bool.false_and, Bool.false_eq_true, if_false]
          exact t0
