/-! TEXT: the class reads a phrase -/
def FrC (m m' : Mem) : Prop := (∀ x j, x ≠ 30 → x ≠ 32 → m'.1 x j = m.1 x j) ∧ m'.2 = m.2 ∧ m'.1 30 1 = m.1 30 1
theorem FrC.rfl' (m : Mem) : FrC m m := ⟨fun _ _ _ _ => rfl, rfl, rfl⟩
theorem FrC.tr {m m' m2 : Mem} (h : FrC m m') (g : FrC m' m2) : FrC m m2 := ⟨fun x j h1 h2 => (g.1 x j h1 h2).trans (h.1 x j h1 h2), g.2.1.trans h.2.1, g.2.2.trans h.2.2⟩
theorem FrC.p30 {m : Mem} {j : Nat} (h : j ≠ 1) (v : Int32) : FrC m (pI m 30 j v) := ⟨fun x i h1 _ => by rw [rI, if_neg (by omega)], rfl, by rw [rI, if_neg (by omega)]⟩
theorem FrC.p32 {m : Mem} {j : Nat} (v : Int32) : FrC m (pI m 32 j v) := ⟨fun x i _ h1 => by rw [rI, if_neg (by omega)], rfl, by rw [rI, if_neg (by omega)]⟩
theorem FrC.tp {m m' : Mem} {b : Nat → Nat} {S : Nat} (h : FrC m m') (hT : Tp m b S) : Tp m' b S := Tp_of hT h.2.2 (fun j => h.1 31 j (by decide) (by decide))
/-- the class at the token that is read from p on, at depth d, l numbers of code behind it -/
def CS (m : Mem) (b : Nat → Nat) (S p d l : Nat) : Prop := Tp m b S ∧ m.1 30 2 = -1 ∧ m.1 30 3 = nI (tK b p) ∧ m.1 30 4 = nI (tkA b p) ∧ (tK b p = 2 ∨ tK b p = 3 → m.1 30 5 = nI (tV b p)) ∧ (tK b p ≠ 1 → m.1 30 6 = nI (tN b p)) ∧ m.1 30 7 = nI d ∧ m.1 30 9 = nI l
/-- the class behind a fault -/
def CB (m : Mem) (f : Nat) : Prop := f ≤ 160 ∧ m.1 30 2 = nI f ∧ m.1 30 3 = 1 ∧ ∃ l, l ≤ 160 ∧ m.1 30 9 = nI l
theorem CB.ne {m : Mem} {f : Nat} (h : CB m f) : ¬ m.1 30 2 = -1 := by
  rw [h.2.1]
  intro q
  have := congrArg Int32.toInt q
  have h0 := h.1
  rw [nI_toInt (by omega)] at this
  have h3 : (-1 : Int32).toInt = -1 := rfl
  omega
theorem CS_adv {b : Nat → Nat} {S p d l : Nat} {m : Mem} (hB : By b S) (hp : p ≤ S) (h : CS m b S p d l) (hk : tK b p ≠ 1) : ∃ m', X3_advance m = some m' ∧ CS m' b S (tN b p) d l ∧ FrC m m' ∧ ∀ i, m'.1 32 i = m.1 32 i := by
  obtain ⟨c1, c2, c3, c4, c5, c6, c7, c8⟩ := h
  obtain ⟨m', e1, e2, e3, e4, e5, e6, e7⟩ := adv_c hB (tN_le hB hp).2 c1 c2 (c6 hk)
  have fr : FrC m m' := ⟨fun x j h1 _ => e7 x j (by omega), e2, e7 30 1 (by omega)⟩
  exact ⟨m', e1, ⟨fr.tp c1, by rw [e7 30 2 (by omega), c2], e3, e4, e5, e6, by rw [e7 30 7 (by omega), c7], by rw [e7 30 9 (by omega), c8]⟩, fr, fun i => e7 32 i (by omega)⟩
theorem CS_emit {b : Nat → Nat} {S p d l : Nat} {m : Mem} (h : CS m b S p d l) (hl : l < 160) (c : Int32) : ∃ m', X3_emit c m = some m' ∧ CS m' b S p d (l + 1) ∧ FrC m m' ∧ (∀ i, i ≠ l → m'.1 32 i = m.1 32 i) ∧ m'.1 32 l = c := by
  obtain ⟨c1, c2, c3, c4, c5, c6, c7, c8⟩ := h
  unfold X3_emit
  have r9 : ∀ k v, (pI m 32 k v).1 30 9 = nI l := fun k v => by rw [rI, if_neg (by omega)]; exact c8
  rw [r9, c8]
  rw [if_pos (show nI l < 160 from nI_lt (b := 160) hl (by decide)), if_pos (by rw [n_inn (by omega)]; exact hl), n_cl (by omega)]
  have fr : FrC m (pI (pI m 32 l c) 30 9 (nI l + 1)) := (FrC.p32 c).tr (FrC.p30 (by decide) _)
  refine ⟨_, rfl, ⟨fr.tp c1, ?_, ?_, ?_, ?_, ?_, ?_, ?_⟩, fr, fun i hi => ?_, ?_⟩
  · simp [rI, c2]
  · simp [rI, c3]
  · simp [rI, c4]
  · intro q; simp [rI, c5 q]
  · intro q; simp [rI, c6 q]
  · simp [rI, c7]
  · simp [rI, nI_1]
  · simp [rI, hi]
  · simp [rI]
theorem CS_d {b : Nat → Nat} {S p d d' l : Nat} {m : Mem} (h : CS m b S p d l) {v : Int32} (hv : v = nI d') : CS (pI m 30 7 v) b S p d' l := by
  obtain ⟨c1, c2, c3, c4, c5, c6, c7, c8⟩ := h
  refine ⟨Tp_pI c1 (by decide) _, ?_, ?_, ?_, ?_, ?_, ?_, ?_⟩
  · simp [rI, c2]
  · simp [rI, c3]
  · simp [rI, c4]
  · intro q; simp [rI, c5 q]
  · intro q; simp [rI, c6 q]
  · simp [rI, hv]
  · simp [rI, c8]
theorem CS_fail {b : Nat → Nat} {S p d l : Nat} {m : Mem} (hB : By b S) (hp : p ≤ S) (h : CS m b S p d l) (hl : l ≤ 160) : ∃ m', X3_fail m = some m' ∧ CB m' (tkA b p) ∧ FrC m m' := by
  obtain ⟨c1, c2, c3, c4, c5, c6, c7, c8⟩ := h
  have ha := (tkA_s hB hp).2
  have hS := hB.hS
  unfold X3_fail
  rw [if_pos c2]
  refine ⟨_, rfl, ⟨by omega, ?_, ?_, l, hl, ?_⟩, (FrC.p30 (by decide) _).tr (FrC.p30 (by decide) _)⟩
  · simp [rI, c4]
  · simp [rI]
  · simp [rI, c8]
theorem CB_fail {m : Mem} {f : Nat} (h : CB m f) : ∃ m', X3_fail m = some m' ∧ CB m' f ∧ FrC m m' := by
  have hne := h.ne
  obtain ⟨c0, c1, c2, l, c3, c4⟩ := h
  unfold X3_fail
  rw [if_neg hne]
  exact ⟨_, rfl, ⟨c0, by simp [rI, c1], by simp [rI], l, c3, by simp [rI, c4]⟩, FrC.p30 (by decide) _⟩
theorem CB_adv {m : Mem} {f : Nat} (h : CB m f) : X3_advance m = some m := by
  unfold X3_advance
  rw [if_neg h.ne]
theorem CB_emit {m : Mem} {f : Nat} (h : CB m f) (c : Int32) : ∃ m', X3_emit c m = some m' ∧ CB m' f ∧ FrC m m' := by
  obtain ⟨c0, c1, c2, l, c3, c4⟩ := h
  unfold X3_emit
  have r9 : ∀ k v, (pI m 32 k v).1 30 9 = nI l := fun k v => by rw [rI, if_neg (by omega)]; exact c4
  rw [r9, c4]
  rcases Nat.lt_or_ge l 160 with hl | hl
  · rw [if_pos (show nI l < 160 from nI_lt (b := 160) hl (by decide)), if_pos (by rw [n_inn (by omega)]; exact hl), n_cl (by omega)]
    exact ⟨_, rfl, ⟨c0, by simp [rI, c1], by simp [rI, c2], l + 1, by omega, by simp [rI, nI_1]⟩, (FrC.p32 c).tr (FrC.p30 (by decide) _)⟩
  · rw [if_neg (show ¬ nI l < 160 from nI_nlt (b := 160) hl (by omega))]
    exact ⟨_, rfl, ⟨c0, c1, c2, l, c3, c4⟩, FrC.rfl' m⟩
theorem CB_d {m : Mem} {f : Nat} (h : CB m f) (v : Int32) : CB (pI m 30 7 v) f := by
  obtain ⟨c0, c1, c2, l, c3, c4⟩ := h
  exact ⟨c0, by simp [rI, c1], by simp [rI, c2], l, c3, by simp [rI, c4]⟩
theorem CB_join {m : Mem} {f : Nat} (h : CB m f) (L : Int32) : X3_joinAt L m = some (-1, m) := by
  unfold X3_joinAt
  rw [h.2.2.1]
  simp only [if_neg (show ¬ (1 : Int32) = 13 by decide), if_neg (show ¬ (1 : Int32) = 14 by decide), if_neg (show ¬ (1 : Int32) = 42 by decide), if_neg (show ¬ (1 : Int32) = 43 by decide), if_neg (show ¬ (1 : Int32) = 45 by decide), if_neg (show ¬ (1 : Int32) = 60 by decide), if_neg (show ¬ (1 : Int32) = 61 by decide)]
theorem CB_expect {m : Mem} {f : Nat} (h : CB m f) {c : Int32} (hc : c ≠ 1) : ∃ m', X3_expect c m = some m' ∧ CB m' f ∧ FrC m m' := by
  unfold X3_expect
  obtain ⟨m', e1, e2, e3⟩ := CB_fail h
  rw [h.2.2.1, if_neg (fun q => hc q.symm), e1, bv_s]
  exact ⟨m', rfl, e2, e3⟩
theorem CB_one {m : Mem} {f : Nat} (h : CB m f) (n : Nat) (x : Int32) : ∃ m', X3_po (n + 1) 1 x m = some m' ∧ CB m' f ∧ FrC m m' := by
  rw [X3_po, if_neg (by decide)]
  unfold X3_oneB
  obtain ⟨m', e1, e2, e3⟩ := CB_fail h
  rw [h.2.2.1, if_neg (by decide), if_neg (by decide), if_neg (by decide), if_neg (by decide), e1, bv_s]
  exact ⟨m', rfl, e2, e3⟩
theorem CB_loop {m : Mem} {f : Nat} (h : CB m f) (po : Nat → Int32 → Mem → Option Mem) (n : Nat) (L v2 v3 : Int32) : X3_phraseB_80 po (n + 1) L v2 v3 m = some m := by
  rw [X3_phraseB_80]
  split
  · rfl
  · rw [CB_join h, bi_s, if_pos rfl]
theorem CB_po {f : Nat} : ∀ (k L n : Nat) (m : Mem), L + k = 5 → k < n → CB m f → ∃ m', X3_po (n + 1) 0 (nI L) m = some m' ∧ CB m' f ∧ FrC m m' := by
  intro k
  induction k with
  | zero =>
    intro L n m hL hn h
    obtain ⟨n, rfl⟩ : ∃ n', n = n' + 1 := ⟨n - 1, by omega⟩
    rw [X3_po, if_pos rfl]
    unfold X3_phraseB
    rw [if_neg (show ¬ nI L < 5 from nI_nlt (b := 5) (by omega) (by omega))]
    obtain ⟨m', e1, e2, e3⟩ := CB_one h n 0
    rw [e1, bv_s]
    exact ⟨m', rfl, e2, e3⟩
  | succ k ih =>
    intro L n m hL hn h
    obtain ⟨n, rfl⟩ : ∃ n', n = n' + 1 := ⟨n - 1, by omega⟩
    rw [X3_po, if_pos rfl]
    unfold X3_phraseB
    rw [if_pos (show nI L < 5 from nI_lt (b := 5) (by omega) (by omega))]
    have main : ∃ m', X3_phraseB_58 (X3_po (n + 1)) (nI L) m = some m' ∧ CB m' f ∧ FrC m m' := by
      unfold X3_phraseB_58
      rw [nI_1]
      obtain ⟨m', e1, e2, e3⟩ := ih (L + 1) n m (by omega) (by omega) h
      rw [e1, bv_s]
      unfold X3_phraseB_77
      refine ⟨m', ?_, e2, e3⟩
      split <;> exact CB_loop e2 _ 9999 _ _ _
    split
    · rw [h.2.2.1, if_neg (by decide)]; exact main
    · exact main
theorem joinAt_c {m : Mem} {k L : Nat} (h : m.1 30 3 = nI k) (hk : k < 256) (hL : L < 5) : X3_joinAt (nI L) m = some ((match jn L k with | none => -1 | some o => nI o), m) := by
  unfold X3_joinAt jn
  rw [h]
  simp (disch := omega) only [lit_n, n_eq]
  by_cases a1 : k = 13
  · rw [if_pos a1]
    by_cases h2 : L = 0
    · rw [if_pos h2, if_pos ⟨h2, a1⟩]
    · rw [if_neg h2, if_neg (by omega), if_neg (by omega), if_neg (by omega), if_neg (by omega), if_neg (by omega), if_neg (by omega), if_neg (by omega)]
  rw [if_neg a1]
  by_cases a2 : k = 14
  · rw [if_pos a2]
    by_cases h2 : L = 1
    · rw [if_pos h2, if_neg (by omega), if_pos ⟨h2, a2⟩]
    · rw [if_neg h2, if_neg (by omega), if_neg (by omega), if_neg (by omega), if_neg (by omega), if_neg (by omega), if_neg (by omega), if_neg (by omega)]
  rw [if_neg a2]
  by_cases a3 : k = 42
  · rw [if_pos a3]
    by_cases h2 : L = 4
    · rw [if_pos h2, if_neg (by omega), if_neg (by omega), if_neg (by omega), if_neg (by omega), if_neg (by omega), if_neg (by omega), if_pos ⟨h2, a3⟩]
    · rw [if_neg h2, if_neg (by omega), if_neg (by omega), if_neg (by omega), if_neg (by omega), if_neg (by omega), if_neg (by omega), if_neg (by omega)]
  rw [if_neg a3]
  by_cases a4 : k = 43
  · rw [if_pos a4]
    by_cases h2 : L = 3
    · rw [if_pos h2, if_neg (by omega), if_neg (by omega), if_neg (by omega), if_neg (by omega), if_pos ⟨h2, a4⟩]
    · rw [if_neg h2, if_neg (by omega), if_neg (by omega), if_neg (by omega), if_neg (by omega), if_neg (by omega), if_neg (by omega), if_neg (by omega)]
  rw [if_neg a4]
  by_cases a5 : k = 45
  · rw [if_pos a5]
    by_cases h2 : L = 3
    · rw [if_pos h2, if_neg (by omega), if_neg (by omega), if_neg (by omega), if_neg (by omega), if_neg (by omega), if_pos ⟨h2, a5⟩]
    · rw [if_neg h2, if_neg (by omega), if_neg (by omega), if_neg (by omega), if_neg (by omega), if_neg (by omega), if_neg (by omega), if_neg (by omega)]
  rw [if_neg a5]
  by_cases a6 : k = 60
  · rw [if_pos a6]
    by_cases h2 : L = 2
    · rw [if_pos h2, if_neg (by omega), if_neg (by omega), if_pos ⟨h2, a6⟩]
    · rw [if_neg h2, if_neg (by omega), if_neg (by omega), if_neg (by omega), if_neg (by omega), if_neg (by omega), if_neg (by omega), if_neg (by omega)]
  rw [if_neg a6]
  by_cases a7 : k = 61
  · rw [if_pos a7]
    by_cases h2 : L = 2
    · rw [if_pos h2, if_neg (by omega), if_neg (by omega), if_neg (by omega), if_pos ⟨h2, a7⟩]
    · rw [if_neg h2, if_neg (by omega), if_neg (by omega), if_neg (by omega), if_neg (by omega), if_neg (by omega), if_neg (by omega), if_neg (by omega)]
  rw [if_neg a7, if_neg (by omega), if_neg (by omega), if_neg (by omega), if_neg (by omega), if_neg (by omega), if_neg (by omega), if_neg (by omega)]
