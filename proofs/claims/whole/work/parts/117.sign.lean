theorem nxt_r {b : Nat → Nat} {S B p : Nat} (hB : By b S) (hp : p ≤ S) {m : Mem} (hR : Rt m b S B) (h : m.1 63 21 = nI p) : ∃ m', X10_next m = some m' ∧ TkR m' b (tkA b p) ∧ FrN m m' := by
  obtain ⟨sk, ha⟩ := tkA_s hB hp
  exact next_0r hB ha 10000 p m hR h sk.le sk (by have := hB.hS; omega)
theorem kAt_sg {b : Nat → Nat} {a s : Nat} (hs : isSg s = true) : kAt b a = s ↔ (b a < 256 ∧ isLt (b a) = false ∧ isDg (b a) = false ∧ isSg (b a) = true ∧ b a = s) := by
  have h := (isSg_i s).mp hs
  unfold kAt
  by_cases h0 : 256 ≤ b a
  · rw [if_pos h0]; omega
  · rw [if_neg h0]
    by_cases hL : isLt (b a) = true
    · rw [if_pos hL]
      constructor
      · intro q
        generalize wno b (wdE b a) a = w at q
        split at q
        · omega
        · split at q <;> omega
      · rintro ⟨_, q, _⟩; rw [hL] at q; cases q
    · rw [if_neg hL]
      by_cases hD : isDg (b a) = true
      · rw [if_pos hD]
        constructor
        · intro q; split at q <;> omega
        · rintro ⟨_, _, q, _⟩; rw [hD] at q; cases q
      · rw [if_neg hD]
        by_cases hG : isSg (b a) = true
        · rw [if_pos hG]
          constructor
          · intro q; exact ⟨by omega, by simpa using hL, by simpa using hD, hG, q⟩
          · rintro ⟨_, _, _, _, q⟩; exact q
        · rw [if_neg hG]
          constructor
          · intro q; omega
          · rintro ⟨_, _, _, q, _⟩; exact absurd q hG
theorem isSign_r {b : Nat → Nat} {a s : Nat} {m : Mem} (hT : TkR m b a) (h0 : m.1 63 26 = 0) (hs : isSg s = true) : X10_isSign (nI s) m = some (if kAt b a = s then 1 else 0, m) := by
  have hsl : s < 256 := by have := (isSg_i s).mp hs; omega
  obtain ⟨-, t2, -, -, t5⟩ := hT
  unfold X10_isSign
  rw [if_pos h0, t2]
  have hk := kAt_sg (b := b) (a := a) hs
  by_cases h : b a < 256 ∧ isLt (b a) = false ∧ isDg (b a) = false ∧ isSg (b a) = true
  · obtain ⟨h1, h2, h3, h4⟩ := h
    rw [if_neg (show ¬ 256 ≤ b a by omega), if_neg (show ¬ isLt (b a) = true by rw [h2]; decide), if_neg (show ¬ isDg (b a) = true by rw [h3]; decide), if_pos h4, if_pos (show nI 3 = 3 from rfl), nI_l (by omega), t5 h1 h2 h3 h4]
    by_cases he : b a = s
    · rw [if_pos (show lg_cmp (lN (b a)) (lN s) = 0 by rw [cmp0, he]), if_pos (hk.mpr ⟨h1, h2, h3, h4, he⟩)]
    · rw [if_neg (show ¬ lg_cmp (lN (b a)) (lN s) = 0 by rw [cmp0, lN_eq (by omega) (by omega)]; exact he), if_neg (fun q => he (hk.mp q).2.2.2.2)]
  · rw [if_neg (show ¬ kAt b a = s from fun q => h ⟨(hk.mp q).1, (hk.mp q).2.1, (hk.mp q).2.2.1, (hk.mp q).2.2.2.1⟩)]
    rw [if_neg]
    intro q
    apply h
    by_cases h0 : 256 ≤ b a
    · rw [if_pos h0] at q; cases q
    · rw [if_neg h0] at q
      by_cases hL : isLt (b a) = true
      · rw [if_pos hL] at q; cases q
      · rw [if_neg hL] at q
        by_cases hD : isDg (b a) = true
        · rw [if_pos hD] at q; split at q <;> cases q
        · rw [if_neg hD] at q
          by_cases hG : isSg (b a) = true
          · exact ⟨by omega, by simpa using hL, by simpa using hD, hG⟩
          · rw [if_neg hG] at q; cases q
theorem isLetter_r {b : Nat → Nat} {S B a e i c : Nat} {m : Mem} (hB : By b S) (hR : Rt m b S B) (h23 : m.1 63 23 = nI a) (h21 : m.1 63 21 = nI e) (he : e ≤ S) (ha : a ≤ S) (hi : i < 8) (hc : c < 256) : X10_isLetter (nI i) (nI c) m = some (if (e ≤ a + i → c = 0) ∧ (a + i < e → b (a + i) = c) then 1 else 0, m) := by
  have hS := hB.hS
  unfold X10_isLetter
  rw [h21, h23, nI_add]
  by_cases h : e ≤ a + i
  · rw [if_pos (show nI e ≤ nI (a + i) by rw [n_le (by omega) (by omega)]; exact h)]
    by_cases hc0 : c = 0
    · subst hc0
      rw [if_pos (show nI 0 = 0 from rfl), if_pos ⟨fun _ => rfl, fun q => by omega⟩]
    · rw [if_neg (show ¬ nI c = 0 from fun q => hc0 ((nI_eq (b := 0) (by omega) (by decide)).mp q)), if_neg (fun q => hc0 (q.1 h))]
  · rw [if_neg (show ¬ nI e ≤ nI (a + i) by rw [n_le (by omega) (by omega)]; exact h), byteAt_r hB hR (by omega), bi_s]
    unfold bt
    have hb := hB.lo (a + i) (by omega)
    rw [if_pos (show a + i < S by omega)]
    by_cases hq : b (a + i) = c
    · rw [if_pos (by rw [hq]), if_pos ⟨fun q => absurd q h, fun _ => hq⟩]
    · rw [if_neg (by rw [n_eq (by omega) (by omega)]; exact hq), if_neg (fun q => hq (q.2 (by omega)))]
theorem isWord_r {b : Nat → Nat} {S B a e c0 c1 c2 c3 c4 c5 c6 c7 : Nat} {m : Mem} (hB : By b S) (hR : Rt m b S B) (h22 : m.1 63 22 = 1) (h26 : m.1 63 26 = 0) (h23 : m.1 63 23 = nI a) (h21 : m.1 63 21 = nI e) (he : e ≤ S) (ha : a ≤ S) (hc : c0 < 256 ∧ c1 < 256 ∧ c2 < 256 ∧ c3 < 256 ∧ c4 < 256 ∧ c5 < 256 ∧ c6 < 256 ∧ c7 < 256) : X10_isWord (nI c0) (nI c1) (nI c2) (nI c3) (nI c4) (nI c5) (nI c6) (nI c7) m = some (if e ≤ a + 8 ∧ ((e ≤ a + 0 → c0 = 0) ∧ (a + 0 < e → b (a + 0) = c0)) ∧ ((e ≤ a + 1 → c1 = 0) ∧ (a + 1 < e → b (a + 1) = c1)) ∧ ((e ≤ a + 2 → c2 = 0) ∧ (a + 2 < e → b (a + 2) = c2)) ∧ ((e ≤ a + 3 → c3 = 0) ∧ (a + 3 < e → b (a + 3) = c3)) ∧ ((e ≤ a + 4 → c4 = 0) ∧ (a + 4 < e → b (a + 4) = c4)) ∧ ((e ≤ a + 5 → c5 = 0) ∧ (a + 5 < e → b (a + 5) = c5)) ∧ ((e ≤ a + 6 → c6 = 0) ∧ (a + 6 < e → b (a + 6) = c6)) ∧ ((e ≤ a + 7 → c7 = 0) ∧ (a + 7 < e → b (a + 7) = c7)) then 1 else 0, m) := by
  have hS := hB.hS
  have L : ∀ i c : Nat, i < 8 → c < 256 → X10_isLetter (nI i) (nI c) m = some (if (e ≤ a + i → c = 0) ∧ (a + i < e → b (a + i) = c) then 1 else 0, m) := fun i c hi hc => isLetter_r hB hR h23 h21 he ha hi hc
  unfold X10_isWord
  rw [if_pos h26, if_pos h22, h23, h21]
  by_cases h8 : e ≤ a + 8
  rotate_left
  · rw [if_pos (show nI a + 8 < nI e from by show nI a + nI 8 < nI e; rw [nI_add, n_lt (by omega) (by omega)]; omega), if_neg (fun q => h8 q.1)]
  · rw [if_neg (show ¬ nI a + 8 < nI e from by show ¬ nI a + nI 8 < nI e; rw [nI_add, n_lt (by omega) (by omega)]; omega)]
    rw [show X10_isLetter (0 : Int32) (nI c0) m = _ from L 0 c0 (by decide) hc.1, bi_s]
    by_cases q0 : (e ≤ a + 0 → c0 = 0) ∧ (a + 0 < e → b (a + 0) = c0)
    rotate_left
    · rw [if_neg q0, if_pos rfl, if_neg (fun q => q0 q.2.1)]
    rw [if_pos q0, if_neg (by decide)]
    rw [show X10_isLetter (1 : Int32) (nI c1) m = _ from L 1 c1 (by decide) hc.2.1, bi_s]
    by_cases q1 : (e ≤ a + 1 → c1 = 0) ∧ (a + 1 < e → b (a + 1) = c1)
    rotate_left
    · rw [if_neg q1, if_pos rfl, if_neg (fun q => q1 q.2.2.1)]
    rw [if_pos q1, if_neg (by decide)]
    rw [show X10_isLetter (2 : Int32) (nI c2) m = _ from L 2 c2 (by decide) hc.2.2.1, bi_s]
    by_cases q2 : (e ≤ a + 2 → c2 = 0) ∧ (a + 2 < e → b (a + 2) = c2)
    rotate_left
    · rw [if_neg q2, if_pos rfl, if_neg (fun q => q2 q.2.2.2.1)]
    rw [if_pos q2, if_neg (by decide)]
    rw [show X10_isLetter (3 : Int32) (nI c3) m = _ from L 3 c3 (by decide) hc.2.2.2.1, bi_s]
    by_cases q3 : (e ≤ a + 3 → c3 = 0) ∧ (a + 3 < e → b (a + 3) = c3)
    rotate_left
    · rw [if_neg q3, if_pos rfl, if_neg (fun q => q3 q.2.2.2.2.1)]
    rw [if_pos q3, if_neg (by decide)]
    rw [show X10_isLetter (4 : Int32) (nI c4) m = _ from L 4 c4 (by decide) hc.2.2.2.2.1, bi_s]
    by_cases q4 : (e ≤ a + 4 → c4 = 0) ∧ (a + 4 < e → b (a + 4) = c4)
    rotate_left
    · rw [if_neg q4, if_pos rfl, if_neg (fun q => q4 q.2.2.2.2.2.1)]
    rw [if_pos q4, if_neg (by decide)]
    rw [show X10_isLetter (5 : Int32) (nI c5) m = _ from L 5 c5 (by decide) hc.2.2.2.2.2.1, bi_s]
    by_cases q5 : (e ≤ a + 5 → c5 = 0) ∧ (a + 5 < e → b (a + 5) = c5)
    rotate_left
    · rw [if_neg q5, if_pos rfl, if_neg (fun q => q5 q.2.2.2.2.2.2.1)]
    rw [if_pos q5, if_neg (by decide)]
    rw [show X10_isLetter (6 : Int32) (nI c6) m = _ from L 6 c6 (by decide) hc.2.2.2.2.2.2.1, bi_s]
    by_cases q6 : (e ≤ a + 6 → c6 = 0) ∧ (a + 6 < e → b (a + 6) = c6)
    rotate_left
    · rw [if_neg q6, if_pos rfl, if_neg (fun q => q6 q.2.2.2.2.2.2.2.1)]
    rw [if_pos q6, if_neg (by decide)]
    rw [show X10_isLetter (7 : Int32) (nI c7) m = _ from L 7 c7 (by decide) hc.2.2.2.2.2.2.2, bi_s]
    by_cases q7 : (e ≤ a + 7 → c7 = 0) ∧ (a + 7 < e → b (a + 7) = c7)
    rotate_left
    · rw [if_neg q7, if_pos rfl, if_neg (fun q => q7 q.2.2.2.2.2.2.2.2)]
    rw [if_pos q7, if_neg (by decide)]
    rw [if_pos ⟨h8, q0, q1, q2, q3, q4, q5, q6, q7⟩]
theorem isWord_n {b : Nat → Nat} {a c0 c1 c2 c3 c4 c5 c6 c7 : Nat} {m : Mem} (hT : TkR m b a) (hl : isLt (b a) = false ∨ 256 ≤ b a) : X10_isWord (nI c0) (nI c1) (nI c2) (nI c3) (nI c4) (nI c5) (nI c6) (nI c7) m = some (0, m) := by
  obtain ⟨-, t2, -⟩ := hT
  unfold X10_isWord
  by_cases h26 : m.1 63 26 = 0
  · rw [if_pos h26, if_neg]
    rw [t2]
    by_cases h0 : 256 ≤ b a
    · rw [if_pos h0]; decide
    · rw [if_neg h0, if_neg (by rcases hl with h | h; rw [h]; decide; omega)]
      split
      · split <;> decide
      · split <;> decide
  · rw [if_neg h26]
theorem isWord_0 {b : Nat → Nat} {S B a : Nat} {m : Mem} (hB : By b S) (hR : Rt m b S B) (ha : a ≤ S) (hT : TkR m b a) (h26 : m.1 63 26 = 0) (hb : b a < 256) (hL : isLt (b a) = true) : X10_isWord (116 : Int32) (97 : Int32) (107 : Int32) (101 : Int32) (115 : Int32) (0 : Int32) (0 : Int32) (0 : Int32) m = some (if wm b (wdE b a) [116, 97, 107, 101, 115] a = true then 1 else 0, m) := by
  obtain ⟨wk, wS⟩ := wdE_s hB ha
  have wg := wdE_gt hB ha hL
  have t22 : m.1 63 22 = 1 := by rw [hT.2.1, if_neg (by omega), if_pos hL]; rfl
  have t21 : m.1 63 21 = nI (wdE b a) := by rw [hT.2.2.1 (Or.inr (Or.inl hL))]; unfold nAt; rw [if_neg (by omega), if_pos hL]
  have hh := isWord_r (c0 := 116) (c1 := 97) (c2 := 107) (c3 := 101) (c4 := 115) (c5 := 0) (c6 := 0) (c7 := 0) hB hR t22 h26 hT.1 t21 wS ha (by decide)
  refine hh.trans ?_
  have al : a + 5 < wdE b a → 97 ≤ b (a + 5) := fun hj => ((isLt_i _).mp (wk.al (a + 5) (by omega) hj)).1
  generalize wdE b a = e at *
  clear hh wk wS t21 t22 hT hR hB
  congr 2
  apply ite_congr _ (fun _ => rfl) (fun _ => rfl)
  apply propext
  simp only [wm, Bool.and_eq_true, beq_iff_eq, Nat.add_assoc, Nat.reduceAdd, Nat.add_zero]
  by_cases hk : e = a + 5
  · subst hk
    simp
  · constructor
    · intro q
      exfalso
      rcases Nat.lt_or_ge e (a + 5) with h | h
      · have := q.2.2.2.2.2.1.1 (by omega); omega
      · have := q.2.2.2.2.2.2.1.2 (by omega)
        have := al (by omega)
        omega
    · intro q
      exact absurd q.2.2.2.2.2.symm hk
theorem isWord_1 {b : Nat → Nat} {S B a : Nat} {m : Mem} (hB : By b S) (hR : Rt m b S B) (ha : a ≤ S) (hT : TkR m b a) (h26 : m.1 63 26 = 0) (hb : b a < 256) (hL : isLt (b a) = true) : X10_isWord (119 : Int32) (111 : Int32) (114 : Int32) (116 : Int32) (104 : Int32) (0 : Int32) (0 : Int32) (0 : Int32) m = some (if wm b (wdE b a) [119, 111, 114, 116, 104] a = true then 1 else 0, m) := by
  obtain ⟨wk, wS⟩ := wdE_s hB ha
  have wg := wdE_gt hB ha hL
  have t22 : m.1 63 22 = 1 := by rw [hT.2.1, if_neg (by omega), if_pos hL]; rfl
  have t21 : m.1 63 21 = nI (wdE b a) := by rw [hT.2.2.1 (Or.inr (Or.inl hL))]; unfold nAt; rw [if_neg (by omega), if_pos hL]
  have hh := isWord_r (c0 := 119) (c1 := 111) (c2 := 114) (c3 := 116) (c4 := 104) (c5 := 0) (c6 := 0) (c7 := 0) hB hR t22 h26 hT.1 t21 wS ha (by decide)
  refine hh.trans ?_
  have al : a + 5 < wdE b a → 97 ≤ b (a + 5) := fun hj => ((isLt_i _).mp (wk.al (a + 5) (by omega) hj)).1
  generalize wdE b a = e at *
  clear hh wk wS t21 t22 hT hR hB
  congr 2
  apply ite_congr _ (fun _ => rfl) (fun _ => rfl)
  apply propext
  simp only [wm, Bool.and_eq_true, beq_iff_eq, Nat.add_assoc, Nat.reduceAdd, Nat.add_zero]
  by_cases hk : e = a + 5
  · subst hk
    simp
  · constructor
    · intro q
      exfalso
      rcases Nat.lt_or_ge e (a + 5) with h | h
      · have := q.2.2.2.2.2.1.1 (by omega); omega
      · have := q.2.2.2.2.2.2.1.2 (by omega)
        have := al (by omega)
        omega
    · intro q
      exact absurd q.2.2.2.2.2.symm hk
theorem isWord_2 {b : Nat → Nat} {S B a : Nat} {m : Mem} (hB : By b S) (hR : Rt m b S B) (ha : a ≤ S) (hT : TkR m b a) (h26 : m.1 63 26 = 0) (hb : b a < 256) (hL : isLt (b a) = true) : X10_isWord (116 : Int32) (105 : Int32) (109 : Int32) (101 : Int32) (115 : Int32) (0 : Int32) (0 : Int32) (0 : Int32) m = some (if wm b (wdE b a) [116, 105, 109, 101, 115] a = true then 1 else 0, m) := by
  obtain ⟨wk, wS⟩ := wdE_s hB ha
  have wg := wdE_gt hB ha hL
  have t22 : m.1 63 22 = 1 := by rw [hT.2.1, if_neg (by omega), if_pos hL]; rfl
  have t21 : m.1 63 21 = nI (wdE b a) := by rw [hT.2.2.1 (Or.inr (Or.inl hL))]; unfold nAt; rw [if_neg (by omega), if_pos hL]
  have hh := isWord_r (c0 := 116) (c1 := 105) (c2 := 109) (c3 := 101) (c4 := 115) (c5 := 0) (c6 := 0) (c7 := 0) hB hR t22 h26 hT.1 t21 wS ha (by decide)
  refine hh.trans ?_
  have al : a + 5 < wdE b a → 97 ≤ b (a + 5) := fun hj => ((isLt_i _).mp (wk.al (a + 5) (by omega) hj)).1
  generalize wdE b a = e at *
  clear hh wk wS t21 t22 hT hR hB
  congr 2
  apply ite_congr _ (fun _ => rfl) (fun _ => rfl)
  apply propext
  simp only [wm, Bool.and_eq_true, beq_iff_eq, Nat.add_assoc, Nat.reduceAdd, Nat.add_zero]
  by_cases hk : e = a + 5
  · subst hk
    simp
  · constructor
    · intro q
      exfalso
      rcases Nat.lt_or_ge e (a + 5) with h | h
      · have := q.2.2.2.2.2.1.1 (by omega); omega
      · have := q.2.2.2.2.2.2.1.2 (by omega)
        have := al (by omega)
        omega
    · intro q
      exact absurd q.2.2.2.2.2.symm hk
theorem isWord_3 {b : Nat → Nat} {S B a : Nat} {m : Mem} (hB : By b S) (hR : Rt m b S B) (ha : a ≤ S) (hT : TkR m b a) (h26 : m.1 63 26 = 0) (hb : b a < 256) (hL : isLt (b a) = true) : X10_isWord (111 : Int32) (114 : Int32) (0 : Int32) (0 : Int32) (0 : Int32) (0 : Int32) (0 : Int32) (0 : Int32) m = some (if wm b (wdE b a) [111, 114] a = true then 1 else 0, m) := by
  obtain ⟨wk, wS⟩ := wdE_s hB ha
  have wg := wdE_gt hB ha hL
  have t22 : m.1 63 22 = 1 := by rw [hT.2.1, if_neg (by omega), if_pos hL]; rfl
  have t21 : m.1 63 21 = nI (wdE b a) := by rw [hT.2.2.1 (Or.inr (Or.inl hL))]; unfold nAt; rw [if_neg (by omega), if_pos hL]
  have hh := isWord_r (c0 := 111) (c1 := 114) (c2 := 0) (c3 := 0) (c4 := 0) (c5 := 0) (c6 := 0) (c7 := 0) hB hR t22 h26 hT.1 t21 wS ha (by decide)
  refine hh.trans ?_
  have al : a + 2 < wdE b a → 97 ≤ b (a + 2) := fun hj => ((isLt_i _).mp (wk.al (a + 2) (by omega) hj)).1
  generalize wdE b a = e at *
  clear hh wk wS t21 t22 hT hR hB
  congr 2
  apply ite_congr _ (fun _ => rfl) (fun _ => rfl)
  apply propext
  simp only [wm, Bool.and_eq_true, beq_iff_eq, Nat.add_assoc, Nat.reduceAdd, Nat.add_zero]
  by_cases hk : e = a + 2
  · subst hk
    simp
  · constructor
    · intro q
      exfalso
      rcases Nat.lt_or_ge e (a + 2) with h | h
      · have := q.2.2.1.1 (by omega); omega
      · have := q.2.2.2.1.2 (by omega)
        have := al (by omega)
        omega
    · intro q
      exact absurd q.2.2.symm hk
theorem isWord_4 {b : Nat → Nat} {S B a : Nat} {m : Mem} (hB : By b S) (hR : Rt m b S B) (ha : a ≤ S) (hT : TkR m b a) (h26 : m.1 63 26 = 0) (hb : b a < 256) (hL : isLt (b a) = true) : X10_isWord (97 : Int32) (110 : Int32) (100 : Int32) (0 : Int32) (0 : Int32) (0 : Int32) (0 : Int32) (0 : Int32) m = some (if wm b (wdE b a) [97, 110, 100] a = true then 1 else 0, m) := by
  obtain ⟨wk, wS⟩ := wdE_s hB ha
  have wg := wdE_gt hB ha hL
  have t22 : m.1 63 22 = 1 := by rw [hT.2.1, if_neg (by omega), if_pos hL]; rfl
  have t21 : m.1 63 21 = nI (wdE b a) := by rw [hT.2.2.1 (Or.inr (Or.inl hL))]; unfold nAt; rw [if_neg (by omega), if_pos hL]
  have hh := isWord_r (c0 := 97) (c1 := 110) (c2 := 100) (c3 := 0) (c4 := 0) (c5 := 0) (c6 := 0) (c7 := 0) hB hR t22 h26 hT.1 t21 wS ha (by decide)
  refine hh.trans ?_
  have al : a + 3 < wdE b a → 97 ≤ b (a + 3) := fun hj => ((isLt_i _).mp (wk.al (a + 3) (by omega) hj)).1
  generalize wdE b a = e at *
  clear hh wk wS t21 t22 hT hR hB
  congr 2
  apply ite_congr _ (fun _ => rfl) (fun _ => rfl)
  apply propext
  simp only [wm, Bool.and_eq_true, beq_iff_eq, Nat.add_assoc, Nat.reduceAdd, Nat.add_zero]
  by_cases hk : e = a + 3
  · subst hk
    simp
  · constructor
    · intro q
      exfalso
      rcases Nat.lt_or_ge e (a + 3) with h | h
      · have := q.2.2.2.1.1 (by omega); omega
      · have := q.2.2.2.2.1.2 (by omega)
        have := al (by omega)
        omega
    · intro q
      exact absurd q.2.2.2.symm hk
theorem isWord_5 {b : Nat → Nat} {S B a : Nat} {m : Mem} (hB : By b S) (hR : Rt m b S B) (ha : a ≤ S) (hT : TkR m b a) (h26 : m.1 63 26 = 0) (hb : b a < 256) (hL : isLt (b a) = true) : X10_isWord (110 : Int32) (111 : Int32) (116 : Int32) (0 : Int32) (0 : Int32) (0 : Int32) (0 : Int32) (0 : Int32) m = some (if wm b (wdE b a) [110, 111, 116] a = true then 1 else 0, m) := by
  obtain ⟨wk, wS⟩ := wdE_s hB ha
  have wg := wdE_gt hB ha hL
  have t22 : m.1 63 22 = 1 := by rw [hT.2.1, if_neg (by omega), if_pos hL]; rfl
  have t21 : m.1 63 21 = nI (wdE b a) := by rw [hT.2.2.1 (Or.inr (Or.inl hL))]; unfold nAt; rw [if_neg (by omega), if_pos hL]
  have hh := isWord_r (c0 := 110) (c1 := 111) (c2 := 116) (c3 := 0) (c4 := 0) (c5 := 0) (c6 := 0) (c7 := 0) hB hR t22 h26 hT.1 t21 wS ha (by decide)
  refine hh.trans ?_
  have al : a + 3 < wdE b a → 97 ≤ b (a + 3) := fun hj => ((isLt_i _).mp (wk.al (a + 3) (by omega) hj)).1
  generalize wdE b a = e at *
  clear hh wk wS t21 t22 hT hR hB
  congr 2
  apply ite_congr _ (fun _ => rfl) (fun _ => rfl)
  apply propext
  simp only [wm, Bool.and_eq_true, beq_iff_eq, Nat.add_assoc, Nat.reduceAdd, Nat.add_zero]
  by_cases hk : e = a + 3
  · subst hk
    simp
  · constructor
    · intro q
      exfalso
      rcases Nat.lt_or_ge e (a + 3) with h | h
      · have := q.2.2.2.1.1 (by omega); omega
      · have := q.2.2.2.2.1.2 (by omega)
        have := al (by omega)
        omega
    · intro q
      exact absurd q.2.2.2.symm hk
theorem isWord_6 {b : Nat → Nat} {S B a : Nat} {m : Mem} (hB : By b S) (hR : Rt m b S B) (ha : a ≤ S) (hT : TkR m b a) (h26 : m.1 63 26 = 0) (hb : b a < 256) (hL : isLt (b a) = true) : X10_isWord (112 : Int32) (108 : Int32) (97 : Int32) (99 : Int32) (101 : Int32) (0 : Int32) (0 : Int32) (0 : Int32) m = some (if wm b (wdE b a) [112, 108, 97, 99, 101] a = true then 1 else 0, m) := by
  obtain ⟨wk, wS⟩ := wdE_s hB ha
  have wg := wdE_gt hB ha hL
  have t22 : m.1 63 22 = 1 := by rw [hT.2.1, if_neg (by omega), if_pos hL]; rfl
  have t21 : m.1 63 21 = nI (wdE b a) := by rw [hT.2.2.1 (Or.inr (Or.inl hL))]; unfold nAt; rw [if_neg (by omega), if_pos hL]
  have hh := isWord_r (c0 := 112) (c1 := 108) (c2 := 97) (c3 := 99) (c4 := 101) (c5 := 0) (c6 := 0) (c7 := 0) hB hR t22 h26 hT.1 t21 wS ha (by decide)
  refine hh.trans ?_
  have al : a + 5 < wdE b a → 97 ≤ b (a + 5) := fun hj => ((isLt_i _).mp (wk.al (a + 5) (by omega) hj)).1
  generalize wdE b a = e at *
  clear hh wk wS t21 t22 hT hR hB
  congr 2
  apply ite_congr _ (fun _ => rfl) (fun _ => rfl)
  apply propext
  simp only [wm, Bool.and_eq_true, beq_iff_eq, Nat.add_assoc, Nat.reduceAdd, Nat.add_zero]
  by_cases hk : e = a + 5
  · subst hk
    simp
  · constructor
    · intro q
      exfalso
      rcases Nat.lt_or_ge e (a + 5) with h | h
      · have := q.2.2.2.2.2.1.1 (by omega); omega
      · have := q.2.2.2.2.2.2.1.2 (by omega)
        have := al (by omega)
        omega
    · intro q
      exact absurd q.2.2.2.2.2.symm hk
theorem isWord_7 {b : Nat → Nat} {S B a : Nat} {m : Mem} (hB : By b S) (hR : Rt m b S B) (ha : a ≤ S) (hT : TkR m b a) (h26 : m.1 63 26 = 0) (hb : b a < 256) (hL : isLt (b a) = true) : X10_isWord (110 : Int32) (117 : Int32) (109 : Int32) (98 : Int32) (101 : Int32) (114 : Int32) (0 : Int32) (0 : Int32) m = some (if wm b (wdE b a) [110, 117, 109, 98, 101, 114] a = true then 1 else 0, m) := by
  obtain ⟨wk, wS⟩ := wdE_s hB ha
  have wg := wdE_gt hB ha hL
  have t22 : m.1 63 22 = 1 := by rw [hT.2.1, if_neg (by omega), if_pos hL]; rfl
  have t21 : m.1 63 21 = nI (wdE b a) := by rw [hT.2.2.1 (Or.inr (Or.inl hL))]; unfold nAt; rw [if_neg (by omega), if_pos hL]
  have hh := isWord_r (c0 := 110) (c1 := 117) (c2 := 109) (c3 := 98) (c4 := 101) (c5 := 114) (c6 := 0) (c7 := 0) hB hR t22 h26 hT.1 t21 wS ha (by decide)
  refine hh.trans ?_
  have al : a + 6 < wdE b a → 97 ≤ b (a + 6) := fun hj => ((isLt_i _).mp (wk.al (a + 6) (by omega) hj)).1
  generalize wdE b a = e at *
  clear hh wk wS t21 t22 hT hR hB
  congr 2
  apply ite_congr _ (fun _ => rfl) (fun _ => rfl)
  apply propext
  simp only [wm, Bool.and_eq_true, beq_iff_eq, Nat.add_assoc, Nat.reduceAdd, Nat.add_zero]
  by_cases hk : e = a + 6
  · subst hk
    simp
  · constructor
    · intro q
      exfalso
      rcases Nat.lt_or_ge e (a + 6) with h | h
      · have := q.2.2.2.2.2.2.1.1 (by omega); omega
      · have := q.2.2.2.2.2.2.2.1.2 (by omega)
        have := al (by omega)
        omega
    · intro q
      exact absurd q.2.2.2.2.2.2.symm hk
theorem isWord_8 {b : Nat → Nat} {S B a : Nat} {m : Mem} (hB : By b S) (hR : Rt m b S B) (ha : a ≤ S) (hT : TkR m b a) (h26 : m.1 63 26 = 0) (hb : b a < 256) (hL : isLt (b a) = true) : X10_isWord (107 : Int32) (110 : Int32) (111 : Int32) (119 : Int32) (110 : Int32) (0 : Int32) (0 : Int32) (0 : Int32) m = some (if wm b (wdE b a) [107, 110, 111, 119, 110] a = true then 1 else 0, m) := by
  obtain ⟨wk, wS⟩ := wdE_s hB ha
  have wg := wdE_gt hB ha hL
  have t22 : m.1 63 22 = 1 := by rw [hT.2.1, if_neg (by omega), if_pos hL]; rfl
  have t21 : m.1 63 21 = nI (wdE b a) := by rw [hT.2.2.1 (Or.inr (Or.inl hL))]; unfold nAt; rw [if_neg (by omega), if_pos hL]
  have hh := isWord_r (c0 := 107) (c1 := 110) (c2 := 111) (c3 := 119) (c4 := 110) (c5 := 0) (c6 := 0) (c7 := 0) hB hR t22 h26 hT.1 t21 wS ha (by decide)
  refine hh.trans ?_
  have al : a + 5 < wdE b a → 97 ≤ b (a + 5) := fun hj => ((isLt_i _).mp (wk.al (a + 5) (by omega) hj)).1
  generalize wdE b a = e at *
  clear hh wk wS t21 t22 hT hR hB
  congr 2
  apply ite_congr _ (fun _ => rfl) (fun _ => rfl)
  apply propext
  simp only [wm, Bool.and_eq_true, beq_iff_eq, Nat.add_assoc, Nat.reduceAdd, Nat.add_zero]
  by_cases hk : e = a + 5
  · subst hk
    simp
  · constructor
    · intro q
      exfalso
      rcases Nat.lt_or_ge e (a + 5) with h | h
      · have := q.2.2.2.2.2.1.1 (by omega); omega
      · have := q.2.2.2.2.2.2.1.2 (by omega)
        have := al (by omega)
        omega
    · intro q
      exact absurd q.2.2.2.2.2.symm hk
theorem isWord_9 {b : Nat → Nat} {S B a : Nat} {m : Mem} (hB : By b S) (hR : Rt m b S B) (ha : a ≤ S) (hT : TkR m b a) (h26 : m.1 63 26 = 0) (hb : b a < 256) (hL : isLt (b a) = true) : X10_isWord (102 : Int32) (97 : Int32) (114 : Int32) (0 : Int32) (0 : Int32) (0 : Int32) (0 : Int32) (0 : Int32) m = some (if wm b (wdE b a) [102, 97, 114] a = true then 1 else 0, m) := by
  obtain ⟨wk, wS⟩ := wdE_s hB ha
  have wg := wdE_gt hB ha hL
  have t22 : m.1 63 22 = 1 := by rw [hT.2.1, if_neg (by omega), if_pos hL]; rfl
  have t21 : m.1 63 21 = nI (wdE b a) := by rw [hT.2.2.1 (Or.inr (Or.inl hL))]; unfold nAt; rw [if_neg (by omega), if_pos hL]
  have hh := isWord_r (c0 := 102) (c1 := 97) (c2 := 114) (c3 := 0) (c4 := 0) (c5 := 0) (c6 := 0) (c7 := 0) hB hR t22 h26 hT.1 t21 wS ha (by decide)
  refine hh.trans ?_
  have al : a + 3 < wdE b a → 97 ≤ b (a + 3) := fun hj => ((isLt_i _).mp (wk.al (a + 3) (by omega) hj)).1
  generalize wdE b a = e at *
  clear hh wk wS t21 t22 hT hR hB
  congr 2
  apply ite_congr _ (fun _ => rfl) (fun _ => rfl)
  apply propext
  simp only [wm, Bool.and_eq_true, beq_iff_eq, Nat.add_assoc, Nat.reduceAdd, Nat.add_zero]
  by_cases hk : e = a + 3
  · subst hk
    simp
  · constructor
    · intro q
      exfalso
      rcases Nat.lt_or_ge e (a + 3) with h | h
      · have := q.2.2.2.1.1 (by omega); omega
      · have := q.2.2.2.2.1.2 (by omega)
        have := al (by omega)
        omega
    · intro q
      exact absurd q.2.2.2.symm hk
theorem isWord_10 {b : Nat → Nat} {S B a : Nat} {m : Mem} (hB : By b S) (hR : Rt m b S B) (ha : a ≤ S) (hT : TkR m b a) (h26 : m.1 63 26 = 0) (hb : b a < 256) (hL : isLt (b a) = true) : X10_isWord (104 : Int32) (101 : Int32) (114 : Int32) (101 : Int32) (0 : Int32) (0 : Int32) (0 : Int32) (0 : Int32) m = some (if wm b (wdE b a) [104, 101, 114, 101] a = true then 1 else 0, m) := by
  obtain ⟨wk, wS⟩ := wdE_s hB ha
  have wg := wdE_gt hB ha hL
  have t22 : m.1 63 22 = 1 := by rw [hT.2.1, if_neg (by omega), if_pos hL]; rfl
  have t21 : m.1 63 21 = nI (wdE b a) := by rw [hT.2.2.1 (Or.inr (Or.inl hL))]; unfold nAt; rw [if_neg (by omega), if_pos hL]
  have hh := isWord_r (c0 := 104) (c1 := 101) (c2 := 114) (c3 := 101) (c4 := 0) (c5 := 0) (c6 := 0) (c7 := 0) hB hR t22 h26 hT.1 t21 wS ha (by decide)
  refine hh.trans ?_
  have al : a + 4 < wdE b a → 97 ≤ b (a + 4) := fun hj => ((isLt_i _).mp (wk.al (a + 4) (by omega) hj)).1
  generalize wdE b a = e at *
  clear hh wk wS t21 t22 hT hR hB
  congr 2
  apply ite_congr _ (fun _ => rfl) (fun _ => rfl)
  apply propext
  simp only [wm, Bool.and_eq_true, beq_iff_eq, Nat.add_assoc, Nat.reduceAdd, Nat.add_zero]
  by_cases hk : e = a + 4
  · subst hk
    simp
  · constructor
    · intro q
      exfalso
      rcases Nat.lt_or_ge e (a + 4) with h | h
      · have := q.2.2.2.2.1.1 (by omega); omega
      · have := q.2.2.2.2.2.1.2 (by omega)
        have := al (by omega)
        omega
    · intro q
      exact absurd q.2.2.2.2.symm hk
theorem isWord_11 {b : Nat → Nat} {S B a : Nat} {m : Mem} (hB : By b S) (hR : Rt m b S B) (ha : a ≤ S) (hT : TkR m b a) (h26 : m.1 63 26 = 0) (hb : b a < 256) (hL : isLt (b a) = true) : X10_isWord (114 : Int32) (111 : Int32) (117 : Int32) (110 : Int32) (100 : Int32) (0 : Int32) (0 : Int32) (0 : Int32) m = some (if wm b (wdE b a) [114, 111, 117, 110, 100] a = true then 1 else 0, m) := by
  obtain ⟨wk, wS⟩ := wdE_s hB ha
  have wg := wdE_gt hB ha hL
  have t22 : m.1 63 22 = 1 := by rw [hT.2.1, if_neg (by omega), if_pos hL]; rfl
  have t21 : m.1 63 21 = nI (wdE b a) := by rw [hT.2.2.1 (Or.inr (Or.inl hL))]; unfold nAt; rw [if_neg (by omega), if_pos hL]
  have hh := isWord_r (c0 := 114) (c1 := 111) (c2 := 117) (c3 := 110) (c4 := 100) (c5 := 0) (c6 := 0) (c7 := 0) hB hR t22 h26 hT.1 t21 wS ha (by decide)
  refine hh.trans ?_
  have al : a + 5 < wdE b a → 97 ≤ b (a + 5) := fun hj => ((isLt_i _).mp (wk.al (a + 5) (by omega) hj)).1
  generalize wdE b a = e at *
  clear hh wk wS t21 t22 hT hR hB
  congr 2
  apply ite_congr _ (fun _ => rfl) (fun _ => rfl)
  apply propext
  simp only [wm, Bool.and_eq_true, beq_iff_eq, Nat.add_assoc, Nat.reduceAdd, Nat.add_zero]
  by_cases hk : e = a + 5
  · subst hk
    simp
  · constructor
    · intro q
      exfalso
      rcases Nat.lt_or_ge e (a + 5) with h | h
      · have := q.2.2.2.2.2.1.1 (by omega); omega
      · have := q.2.2.2.2.2.2.1.2 (by omega)
        have := al (by omega)
        omega
    · intro q
      exact absurd q.2.2.2.2.2.symm hk
