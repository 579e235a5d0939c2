/-! calls: text -/
def flS (F : Nat → Int32) (x : Int32) : Nat → Nat
  | 0 => 0
  | k + 1 => if F k = x then 1 else flS F x k
theorem flS_le (F : Nat → Int32) (x : Int32) : ∀ k, flS F x k ≤ 1 := by
  intro k
  induction k with
  | zero => exact Nat.zero_le _
  | succ k ih => rw [flS]; split <;> omega
theorem flS_1 (F : Nat → Int32) (x : Int32) : ∀ k, flS F x k = 1 ↔ ∃ i, i < k ∧ F i = x := by
  intro k
  induction k with
  | zero => exact ⟨fun h => absurd (show 0 = 1 from h) (by decide), fun ⟨i, h, _⟩ => absurd h (Nat.not_lt_zero _)⟩
  | succ k ih =>
    rw [flS]
    by_cases q : F k = x
    · rw [if_pos q]; exact ⟨fun _ => ⟨k, by omega, q⟩, fun _ => rfl⟩
    · rw [if_neg q, ih]
      exact ⟨fun ⟨i, a, b⟩ => ⟨i, by omega, b⟩, fun ⟨i, a, b⟩ => ⟨i, by
        by_cases y : i = k
        · rw [y] at b; exact absurd b q
        · omega, b⟩⟩
theorem gD {l : List Int32} {i : Nat} (hi : i < l.length) : l.getD i 0 = l[i] := by
  rw [List.getD_eq_getElem?_getD, List.getElem?_eq_getElem hi]; rfl
theorem flS_l (l : List Int32) (x : Int32) : flS (fun i => l.getD i 0) x l.length = if x ∈ l then 1 else 0 := by
  have h1 := flS_1 (fun i => l.getD i 0) x l.length
  have h2 := flS_le (fun i => l.getD i 0) x l.length
  by_cases q : x ∈ l
  · rw [if_pos q]
    apply h1.mpr
    obtain ⟨i, hi, e⟩ := List.mem_iff_getElem.mp q
    exact ⟨i, hi, by show l.getD i 0 = x; rw [gD hi]; exact e⟩
  · rw [if_neg q]
    have : ¬ flS (fun i => l.getD i 0) x l.length = 1 := by
      intro y
      obtain ⟨i, hi, e⟩ := h1.mp y
      apply q
      have e' : l.getD i 0 = x := e
      rw [gD hi] at e'
      rw [← e']; exact List.getElem_mem hi
    omega
theorem init47 {t L : Nat} {m : Mem} {F : Nat → Int32} (hL : L < 160) (hF : ∀ i, i < L → m.1 (t + 1) i = F i) : ∀ n k, k ≤ L → L - k < n → X7_init_47 t L n (nI (flS F (-nI 3) k)) (nI (flS F (-nI 6) k)) (nI k) m = some (pI (pI m t 2 (nI (flS F (-nI 3) L))) t 3 (nI (flS F (-nI 6) L))) := by
  have hd : ∀ k, (nI (flS F (-nI 3) k) = nI 0 ∨ nI (flS F (-nI 3) k) = nI 1) = True := fun k => eq_true (by
    rcases (show flS F (-nI 3) k = 0 ∨ flS F (-nI 3) k = 1 by have := flS_le F (-nI 3) k; omega) with h | h <;> rw [h] <;> simp)
  have hd' : ∀ k, (nI (flS F (-nI 6) k) = nI 0 ∨ nI (flS F (-nI 6) k) = nI 1) = True := fun k => eq_true (by
    rcases (show flS F (-nI 6) k = 0 ∨ flS F (-nI 6) k = 1 by have := flS_le F (-nI 6) k; omega) with h | h <;> rw [h] <;> simp)
  have hn : Int32.ofNat L = nI L := rfl
  intro n
  induction n with
  | zero => intro k _ h; omega
  | succ n ih =>
    intro k hk hn'
    rw [X7_init_47]
    by_cases h : k = L
    · subst h
      simp (disch := omega) only [leT, L0, L1, hn, hd, hd', ↓reduceIte]
    · have e := hF k (by omega)
      have hi := ih (k + 1) (by omega) (by omega)
      rw [flS, flS] at hi
      by_cases q3 : F k = -nI 3
      · have q6 : ¬ F k = -nI 6 := by rw [q3]; decide
        rw [if_pos q3, if_neg q6] at hi
        have q3' : (F k = -nI 3) = True := eq_true q3
        have q6' : (F k = -nI 6) = False := eq_false q6
        simp (disch := omega) only [leF, inT, n_cl, nI_add, L1, L3, L6, hn, e, q3', q6', X7_init_66, X7_init_78, ↓reduceIte]
        exact hi
      · rw [if_neg q3] at hi
        have q3' : (F k = -nI 3) = False := eq_false q3
        by_cases q6 : F k = -nI 6
        · rw [if_pos q6] at hi
          have q6' : (F k = -nI 6) = True := eq_true q6
          simp (disch := omega) only [leF, inT, n_cl, nI_add, L1, L3, L6, hn, e, q3', q6', X7_init_66, X7_init_78, ↓reduceIte]
          exact hi
        · rw [if_neg q6] at hi
          have q6' : (F k = -nI 6) = False := eq_false q6
          simp (disch := omega) only [leF, inT, n_cl, nI_add, L1, L3, L6, hn, e, q3', q6', X7_init_66, X7_init_78, ↓reduceIte]
          exact hi
theorem rM (m : Mem) (a x j : Nat) : (nM m a).1 x j = if x = a then 0 else m.1 x j := by
  unfold nM va_up
  by_cases h : x = a
  · simp [h]
  · simp [h]
theorem rM2 (m : Mem) (a x j : Nat) : (nM m a).2 x j = if x = a then 0 else m.2 x j := by
  unfold nM va_up
  by_cases h : x = a
  · simp [h]
  · simp [h]
theorem rC2 (m : Mem) (a c sp dp n : Nat) : (pC m a c sp dp n).2 = m.2 := rfl
/-- a TEXT laid down -/
theorem init_c {t L : Nat} {m : Mem} {c1 c2 c3 : List Int32} (ht : 52 ≤ t) (hl : L = c1.length + c2.length + c3.length) (hL : L < 160) (hC : ∀ i, i < L → m.1 32 i = (c1 ++ (c2 ++ c3)).getD i 0) : ∃ mB, X7_init t L (nI c1.length) (nI (c1.length + c2.length)) (nM (pC (nM (nM m t) (t + 1)) 32 (t + 1) 0 0 L) (t + 2)) = some mB ∧ mB.1 t 2 = nI (fK (c1, c2, c3)) ∧ mB.1 t 3 = nI (fO (c1, c2, c3)) ∧ mB.1 (t + 2) 0 = nI c1.length ∧ mB.1 (t + 2) 1 = nI (c1.length + c2.length) ∧ mB.1 (t + 2) 2 = nI L ∧ (∀ i, i < L → mB.1 (t + 1) i = (c1 ++ (c2 ++ c3)).getD i 0) ∧ (∀ x j, ¬ (t ≤ x ∧ x ≤ t + 2) → mB.1 x j = m.1 x j) ∧ ∀ x j, ¬ (t ≤ x ∧ x ≤ t + 2) → mB.2 x j = m.2 x j := by
  have hlen : (c1 ++ (c2 ++ c3)).length = L := by simp; omega
  have rd1 : ∀ i, i < L → (nM (pC (nM (nM m t) (t + 1)) 32 (t + 1) 0 0 L) (t + 2)).1 (t + 1) i = (c1 ++ (c2 ++ c3)).getD i 0 := fun i hi => by
    rw [rM, if_neg (by omega), rCp, if_pos (by omega), rM, if_neg (by omega), rM, if_neg (by omega), show 0 + (i - 0) = i by omega]
    exact hC i hi
  have e := init47 (t := t) (L := L) (m := pI (pI (pI (nM (pC (nM (nM m t) (t + 1)) 32 (t + 1) 0 0 L) (t + 2)) (t + 2) 0 (nI c1.length)) (t + 2) 1 (nI (c1.length + c2.length))) (t + 2) 2 (nI L)) (F := fun i => (c1 ++ (c2 ++ c3)).getD i 0) hL (fun i hi => by rw [rIn (by omega), rIn (by omega), rIn (by omega)]; exact rd1 i hi) 10000 0 (Nat.zero_le _) (by omega)
  have f3 : flS (fun i => (c1 ++ (c2 ++ c3)).getD i 0) (-nI 3) L = fK (c1, c2, c3) := by rw [← hlen]; exact flS_l _ _
  have f6 : flS (fun i => (c1 ++ (c2 ++ c3)).getD i 0) (-nI 6) L = fO (c1, c2, c3) := by rw [← hlen]; exact flS_l _ _
  rw [f3, f6] at e
  refine ⟨pI (pI (pI (pI (pI (nM (pC (nM (nM m t) (t + 1)) 32 (t + 1) 0 0 L) (t + 2)) (t + 2) 0 (nI c1.length)) (t + 2) 1 (nI (c1.length + c2.length))) (t + 2) 2 (nI L)) t 2 (nI (fK (c1, c2, c3)))) t 3 (nI (fO (c1, c2, c3))), ?_, ?_, ?_, ?_, ?_, ?_, fun i hi => ?_, fun x j h => ?_, fun x j h => ?_⟩
  · unfold X7_init X7_init_16
    simp (disch := omega) only [leT, leF, ltT, ltF, eqT, eqF, inT, n_cl, nI_add, pk_mul, n_div, pk_sub, md8, md2, or_true, true_or, or_false, false_or, Bool.true_eq_false, Bool.false_eq_true, L0, L1, L2, L3, L4, L5, L6, L7, L8, L9, L10, L20, L31, L40, L64, L99, L100, L255, L256, L999, L1000, L99999, ↓reduceIte, show Int32.ofNat L = nI L from rfl]
    exact e
  · rw [rIn (by omega), rIs]
  · rw [rIs]
  · rw [rIn (by omega), rIn (by omega), rIn (by omega), rIn (by omega), rIs]
  · rw [rIn (by omega), rIn (by omega), rIn (by omega), rIs]
  · rw [rIn (by omega), rIn (by omega), rIs]
  · rw [rIn (by omega), rIn (by omega), rIn (by omega), rIn (by omega), rIn (by omega)]; exact rd1 i hi
  · rw [rIn (by omega), rIn (by omega), rIn (by omega), rIn (by omega), rIn (by omega), rM, if_neg (by omega), rCp, if_neg (by omega), rM, if_neg (by omega), rM, if_neg (by omega)]
  · rw [rI2, rI2, rI2, rI2, rI2, rM2, if_neg (by omega), rC2, rM2, if_neg (by omega), rM2, if_neg (by omega)]
/-- the reference's text -/
def txT (T n : Nat) (mn : Mem) : Option (Int32 × Mem) := bi (X10_read (nI T) (nI 0) (pI (pI mn 65 T (nI n)) 63 6 (nI 0))) fun r73 m73 => if (m73.1 63 26) = nI 0 then some (((pI m73 63 3 ((m73.1 63 3) + nI 1)).1 63 3) - nI 1, pI m73 63 3 ((m73.1 63 3) + nI 1)) else some (-nI 100 - (m73.1 63 27), m73)
theorem txl {T n : Nat} {m : Mem} (hT : T < 6) (hn : n ≤ 160) (h3 : m.1 63 3 = nI T) (h6 : m.1 63 6 = nI n) : ∀ f k mk, k ≤ n → n - k < f → (∀ x j, mk.1 x j = if x = 64 ∧ 160 * T ≤ j ∧ j < 160 * T + k then m.1 66 (j - 160 * T) else m.1 x j) → mk.2 = m.2 → ∃ mn, (∀ x j, mn.1 x j = if x = 64 ∧ 160 * T ≤ j ∧ j < 160 * T + n then m.1 66 (j - 160 * T) else m.1 x j) ∧ mn.2 = m.2 ∧ X10_text_14 f (nI k) mk = txT T n mn := by
  intro f
  induction f with
  | zero => intro k mk _ h; omega
  | succ f ih =>
    intro k mk hk hf hm h2
    have e3 : mk.1 63 3 = nI T := by rw [hm, if_neg (by omega)]; exact h3
    have e6 : mk.1 63 6 = nI n := by rw [hm, if_neg (by omega)]; exact h6
    rw [X10_text_14]
    by_cases h : k = n
    · subst h
      refine ⟨mk, hm, h2, ?_⟩
      unfold txT
      simp (disch := omega) only [leT, leF, ltT, ltF, eqT, eqF, inT, n_cl, nI_add, pk_mul, n_div, pk_sub, md8, md2, or_true, true_or, or_false, false_or, Bool.true_eq_false, Bool.false_eq_true, L0, L1, L2, L3, L4, L5, L6, L7, L8, L9, L10, L20, L31, L40, L64, L99, L100, L255, L256, L999, L1000, L99999, ↓reduceIte, L11, L12, L13, L14, L15, L16, L30, L48, L160, K1, K2, K3, K4, K5, K7, K8, K9, K15, K17, K20, K27, K37, K48, K99, K255, inR, isPlace_r, isPlace_c, isSheet_r, e3, e6, rIn]
      rfl
    · have e : mk.1 66 k = m.1 66 k := by rw [hm, if_neg (by omega)]
      obtain ⟨mn, a1, a2, a3⟩ := ih (k + 1) (pI mk 64 (160 * T + k) (m.1 66 k)) (by omega) (by omega) (fun x j => by
        by_cases y : x = 64 ∧ j = 160 * T + k
        · rw [y.1, y.2, rIs, if_pos (by omega), show 160 * T + k - 160 * T = k by omega]
        · rw [rIn (by omega), hm]
          by_cases q : x = 64 ∧ 160 * T ≤ j ∧ j < 160 * T + k
          · rw [if_pos q, if_pos (by omega)]
          · rw [if_neg q, if_neg (by omega)]) h2
      refine ⟨mn, a1, a2, ?_⟩
      simp (disch := omega) only [leT, leF, ltT, ltF, eqT, eqF, inT, n_cl, nI_add, pk_mul, n_div, pk_sub, md8, md2, or_true, true_or, or_false, false_or, Bool.true_eq_false, Bool.false_eq_true, L0, L1, L2, L3, L4, L5, L6, L7, L8, L9, L10, L20, L31, L40, L64, L99, L100, L255, L256, L999, L1000, L99999, ↓reduceIte, L11, L12, L13, L14, L15, L16, L30, L48, L160, K1, K2, K3, K4, K5, K7, K8, K9, K15, K17, K20, K27, K37, K48, K99, K255, inR, isPlace_r, isPlace_c, isSheet_r, e3, e6, e]
      exact a3
