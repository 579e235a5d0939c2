/-! TEXT: bytes, tokens -/
def By (b : Nat → Nat) (S : Nat) : Prop := S ≤ 160 ∧ (∀ i, i < S → b i < 256) ∧ (∀ i, S ≤ i → b i = 256)
theorem By.hS {b : Nat → Nat} {S : Nat} (h : By b S) : S ≤ 160 := h.1
theorem By.lo {b : Nat → Nat} {S : Nat} (h : By b S) : ∀ i, i < S → b i < 256 := h.2.1
theorem By.hi {b : Nat → Nat} {S : Nat} (h : By b S) : ∀ i, S ≤ i → b i = 256 := h.2.2
def skp (P : Nat → Bool) (b : Nat → Nat) : Nat → Nat → Nat
  | 0, p => p
  | n + 1, p => if P (b p) then skp P b n (p + 1) else p
def isWs (x : Nat) : Bool := x == 32 || x == 10
def isLt (x : Nat) : Bool := decide (97 ≤ x) && decide (x ≤ 122)
def isDg (x : Nat) : Bool := decide (48 ≤ x) && decide (x ≤ 57)
def isSg (x : Nat) : Bool := x == 40 || x == 41 || x == 59 || x == 43 || x == 45 || x == 42 || x == 60 || x == 61
theorem isWs_i (x : Nat) : isWs x = true ↔ (x = 32 ∨ x = 10) := by simp [isWs]
theorem isLt_i (x : Nat) : isLt x = true ↔ (97 ≤ x ∧ x ≤ 122) := by simp [isLt]
theorem isDg_i (x : Nat) : isDg x = true ↔ (48 ≤ x ∧ x ≤ 57) := by simp [isDg]
theorem isSg_i (x : Nat) : isSg x = true ↔ (x = 40 ∨ x = 41 ∨ x = 59 ∨ x = 43 ∨ x = 45 ∨ x = 42 ∨ x = 60 ∨ x = 61) := by simp [isSg, or_assoc]
/-- q is where P ends, from p on -/
def Sk (P : Nat → Bool) (b : Nat → Nat) (p q : Nat) : Prop := p ≤ q ∧ (∀ i, p ≤ i → i < q → P (b i) = true) ∧ P (b q) = false
theorem Sk.le {P : Nat → Bool} {b : Nat → Nat} {p q : Nat} (h : Sk P b p q) : p ≤ q := h.1
theorem Sk.al {P : Nat → Bool} {b : Nat → Nat} {p q : Nat} (h : Sk P b p q) : ∀ i, p ≤ i → i < q → P (b i) = true := h.2.1
theorem Sk.no {P : Nat → Bool} {b : Nat → Nat} {p q : Nat} (h : Sk P b p q) : P (b q) = false := h.2.2
theorem skp_s {P : Nat → Bool} {b : Nat → Nat} {S : Nat} (hB : By b S) (h0 : P 256 = false) : ∀ (n p : Nat), p ≤ S → S - p < n → Sk P b p (skp P b n p) ∧ skp P b n p ≤ S := by
  intro n
  induction n with
  | zero => intro p _ h; omega
  | succ n ih =>
    intro p hp hn
    rw [skp]
    by_cases h : P (b p) = true
    · rw [if_pos h]
      have hpS : p < S := by
        rcases Nat.lt_or_ge p S with q | q
        · exact q
        · rw [hB.hi p q, h0] at h; cases h
      obtain ⟨⟨l, a, no⟩, u⟩ := ih (p + 1) (by omega) (by omega)
      refine ⟨⟨by omega, fun i h1 h2 => ?_, no⟩, u⟩
      rcases Nat.eq_or_lt_of_le h1 with e | e
      · subst e; exact h
      · exact a i (by omega) h2
    · rw [if_neg h]
      exact ⟨⟨Nat.le_refl _, fun i h1 h2 => by omega, by simpa using h⟩, hp⟩
/-- where the token begins that is read from p on -/
def tkA (b : Nat → Nat) (p : Nat) : Nat := skp isWs b 200 p
def wdE (b : Nat → Nat) (a : Nat) : Nat := skp isLt b 200 a
def nmE (b : Nat → Nat) (a : Nat) : Nat := skp isDg b 200 a
/-- whether a word stands from a to e -/
def wm (b : Nat → Nat) (e : Nat) : List Nat → Nat → Bool
  | [], a => a == e
  | c :: w, a => b a == c && wm b e w (a + 1)
def wds : List (List Nat) := [[116, 97, 107, 101, 115], [119, 111, 114, 116, 104], [116, 105, 109, 101, 115], [111, 114], [97, 110, 100], [110, 111, 116], [112, 108, 97, 99, 101], [110, 117, 109, 98, 101, 114], [107, 110, 111, 119, 110], [102, 97, 114], [104, 101, 114, 101], [114, 111, 117, 110, 100]]
/-- which of the words it is; the list's length: none -/
def wnoL (b : Nat → Nat) (e a : Nat) : List (List Nat) → Nat
  | [] => 0
  | w :: ws => if wm b e w a then 0 else wnoL b e a ws + 1
def wno (b : Nat → Nat) (e a : Nat) : Nat := wnoL b e a wds
/-- the number from a on, k digits -/
def nmV (b : Nat → Nat) (a : Nat) : Nat → Nat
  | 0 => 0
  | k + 1 => nmV b a k * 10 + (b (a + k) - 48)
def kAt (b : Nat → Nat) (a : Nat) : Nat :=
  if 256 ≤ b a then 0
  else if isLt (b a) then (if wno b (wdE b a) a < 6 then 10 + wno b (wdE b a) a else if wno b (wdE b a) a < 12 then 3 else 1)
  else if isDg (b a) then (if nmE b a - a ≤ 4 then 2 else 1)
  else if isSg (b a) then b a else 1
def vAt (b : Nat → Nat) (a : Nat) : Nat :=
  if isLt (b a) then wno b (wdE b a) a - 6 else nmV b a (nmE b a - a)
def nAt (b : Nat → Nat) (a : Nat) : Nat :=
  if 256 ≤ b a then a else if isLt (b a) then wdE b a else if isDg (b a) then nmE b a else a + 1
/-- the kind of the token read from p on: 0 end, 1 none, 2 number, 3 name, 10.. key words, else the sign -/
def tK (b : Nat → Nat) (p : Nat) : Nat := kAt b (tkA b p)
def tV (b : Nat → Nat) (p : Nat) : Nat := vAt b (tkA b p)
def tN (b : Nat → Nat) (p : Nat) : Nat := nAt b (tkA b p)
theorem wm_len {b : Nat → Nat} {e : Nat} : ∀ (w : List Nat) (a : Nat), wm b e w a = true → e = a + w.length := by
  intro w
  induction w with
  | nil => intro a h; simp [wm] at h; simp [h]
  | cons c w ih =>
    intro a h
    simp only [wm, Bool.and_eq_true] at h
    have := ih (a + 1) h.2
    simp only [List.length_cons]; omega
section
variable {b : Nat → Nat} {S : Nat}
theorem tkA_s (hB : By b S) {p : Nat} (hp : p ≤ S) : Sk isWs b p (tkA b p) ∧ tkA b p ≤ S := skp_s hB rfl 200 p hp (by have := hB.hS; omega)
theorem wdE_s (hB : By b S) {p : Nat} (hp : p ≤ S) : Sk isLt b p (wdE b p) ∧ wdE b p ≤ S := skp_s hB rfl 200 p hp (by have := hB.hS; omega)
theorem nmE_s (hB : By b S) {p : Nat} (hp : p ≤ S) : Sk isDg b p (nmE b p) ∧ nmE b p ≤ S := skp_s hB rfl 200 p hp (by have := hB.hS; omega)
theorem by_lt (hB : By b S) {a : Nat} (h : b a < 256) : a < S := by
  rcases Nat.lt_or_ge a S with q | q
  · exact q
  · have := hB.hi a q; omega
theorem by_le (hB : By b S) (a : Nat) : b a ≤ 256 := by
  rcases Nat.lt_or_ge a S with q | q
  · have := hB.lo a q; omega
  · have := hB.hi a q; omega
theorem wdE_gt (hB : By b S) {a : Nat} (ha : a ≤ S) (h : isLt (b a) = true) : a < wdE b a := by
  obtain ⟨⟨l, al, no⟩, _⟩ := wdE_s hB ha
  rcases Nat.eq_or_lt_of_le l with e | e
  · rw [← e, h] at no; cases no
  · exact e
theorem nmE_gt (hB : By b S) {a : Nat} (ha : a ≤ S) (h : isDg (b a) = true) : a < nmE b a := by
  obtain ⟨⟨l, al, no⟩, _⟩ := nmE_s hB ha
  rcases Nat.eq_or_lt_of_le l with e | e
  · rw [← e, h] at no; cases no
  · exact e
theorem nAt_le (hB : By b S) {a : Nat} (ha : a ≤ S) : a ≤ nAt b a ∧ nAt b a ≤ S := by
  unfold nAt
  split
  · exact ⟨Nat.le_refl _, ha⟩
  · split
    · exact ⟨(wdE_s hB ha).1.le, (wdE_s hB ha).2⟩
    · split
      · exact ⟨(nmE_s hB ha).1.le, (nmE_s hB ha).2⟩
      · have := by_lt hB (a := a) (by omega); omega
theorem nAt_gt (hB : By b S) {a : Nat} (ha : a ≤ S) (h : kAt b a ≠ 0) : a < nAt b a := by
  unfold nAt
  by_cases h0 : 256 ≤ b a
  · simp [kAt, h0] at h
  · rw [if_neg h0]
    by_cases h1 : isLt (b a) = true
    · rw [if_pos h1]; exact wdE_gt hB ha h1
    · rw [if_neg h1]
      by_cases h2 : isDg (b a) = true
      · rw [if_pos h2]; exact nmE_gt hB ha h2
      · rw [if_neg h2]; omega
theorem tN_le (hB : By b S) {p : Nat} (hp : p ≤ S) : p ≤ tN b p ∧ tN b p ≤ S := by
  obtain ⟨s, l⟩ := tkA_s hB hp
  have h1 := s.le
  have h2 := nAt_le hB l
  unfold tN; omega
theorem tN_gt (hB : By b S) {p : Nat} (hp : p ≤ S) (h : tK b p ≠ 0) : p < tN b p := by
  obtain ⟨s, l⟩ := tkA_s hB hp
  have h1 := s.le
  have h2 := nAt_gt hB l h
  unfold tN; omega
end
theorem kAt_lt {b : Nat → Nat} (a : Nat) : kAt b a < 256 := by
  unfold kAt
  split
  · omega
  · split
    · split
      · omega
      · split <;> omega
    · split
      · split <;> omega
      · split <;> omega
theorem tK_lt (b : Nat → Nat) (p : Nat) : tK b p < 256 := kAt_lt _
