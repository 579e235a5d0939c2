theorem wm_inj {b : Nat → Nat} {e : Nat} : ∀ (w w' : List Nat) (a : Nat), wm b e w a = true → wm b e w' a = true → w = w' := by
  intro w
  induction w with
  | nil =>
    intro w' a h h'
    have l1 := wm_len _ _ h
    have l2 := wm_len _ _ h'
    cases w' with
    | nil => rfl
    | cons c w' => simp only [List.length_cons, List.length_nil] at l1 l2; omega
  | cons c w ih =>
    intro w' a h h'
    cases w' with
    | nil =>
      have l1 := wm_len _ _ h
      have l2 := wm_len _ _ h'
      simp only [List.length_cons, List.length_nil] at l1 l2; omega
    | cons c' w' =>
      simp only [wm, Bool.and_eq_true, beq_iff_eq] at h h'
      rw [ih w' (a + 1) h.2 h'.2, ← h.1, ← h'.1]
theorem wnoL_m {b : Nat → Nat} {e a : Nat} : ∀ ws : List (List Nat), wnoL b e a ws < ws.length → wm b e (ws.getD (wnoL b e a ws) []) a = true := by
  intro ws
  induction ws with
  | nil => intro h; simp [wnoL] at h
  | cons w ws ih =>
    intro h
    by_cases hw : wm b e w a = true
    · simp only [wnoL, hw, if_true, List.getD_cons_zero]
    · have hw2 : wm b e w a = false := by simpa using hw
      simp only [wnoL, hw2, Bool.false_eq_true, if_false, List.getD_cons_succ, List.length_cons] at h ⊢
      exact ih (by omega)
theorem wnoL_le {b : Nat → Nat} {e a : Nat} : ∀ (ws : List (List Nat)) (i : Nat), i < ws.length → wm b e (ws.getD i []) a = true → wnoL b e a ws ≤ i := by
  intro ws
  induction ws with
  | nil => intro i h; simp at h
  | cons w ws ih =>
    intro i h hm
    by_cases hw : wm b e w a = true
    · simp only [wnoL, hw, if_true]; omega
    · have hw2 : wm b e w a = false := by simpa using hw
      simp only [wnoL, hw2, Bool.false_eq_true, if_false, List.length_cons] at h ⊢
      cases i with
      | zero => exact absurd hm hw
      | succ i =>
        simp only [List.getD_cons_succ] at hm
        have := ih i (by omega) hm
        omega
theorem wds_nd : ∀ i, i < 12 → ∀ j, j < 12 → wds.getD i [] = wds.getD j [] → i = j := by decide +kernel
theorem wno_i {b : Nat → Nat} {e a i : Nat} (hi : i < 12) : wno b e a = i ↔ wm b e (wds.getD i []) a = true := by
  unfold wno
  have hl : wds.length = 12 := rfl
  constructor
  · intro h
    have := wnoL_m (b := b) (e := e) (a := a) wds (by omega)
    rw [h] at this; exact this
  · intro h
    have h1 := wnoL_le wds i (by omega) h
    have h2 := wnoL_m (b := b) (e := e) (a := a) wds (by omega)
    exact wds_nd _ (by omega) _ hi (wm_inj _ _ _ h2 h)
theorem kAt_w {b : Nat → Nat} {a i : Nat} (hi : i < 6) : kAt b a = 10 + i ↔ (b a < 256 ∧ isLt (b a) = true ∧ wno b (wdE b a) a = i) := by
  unfold kAt
  by_cases h0 : 256 ≤ b a
  · rw [if_pos h0]; omega
  · rw [if_neg h0]
    by_cases hL : isLt (b a) = true
    · rw [if_pos hL]
      generalize wno b (wdE b a) a = w
      constructor
      · intro q
        refine ⟨by omega, hL, ?_⟩
        split at q
        · omega
        · split at q <;> omega
      · rintro ⟨_, _, q⟩; subst q; rw [if_pos hi]
    · rw [if_neg hL]
      constructor
      · intro q
        by_cases hD : isDg (b a) = true
        · rw [if_pos hD] at q; split at q <;> omega
        · rw [if_neg hD] at q
          have := isSg_i (b a)
          split at q
          · rename_i hg; have := this.mp hg; omega
          · omega
      · rintro ⟨_, q, _⟩; exact absurd q hL
theorem kAt_3 {b : Nat → Nat} {a : Nat} : kAt b a = 3 ↔ (b a < 256 ∧ isLt (b a) = true ∧ 6 ≤ wno b (wdE b a) a ∧ wno b (wdE b a) a < 12) := by
  unfold kAt
  by_cases h0 : 256 ≤ b a
  · rw [if_pos h0]; omega
  · rw [if_neg h0]
    by_cases hL : isLt (b a) = true
    · rw [if_pos hL]
      generalize wno b (wdE b a) a = w
      constructor
      · intro q
        refine ⟨by omega, hL, ?_⟩
        split at q
        · omega
        · split at q <;> omega
      · rintro ⟨_, _, q⟩; rw [if_neg (by omega), if_pos (by omega)]
    · rw [if_neg hL]
      constructor
      · intro q
        by_cases hD : isDg (b a) = true
        · rw [if_pos hD] at q; split at q <;> omega
        · rw [if_neg hD] at q
          have := isSg_i (b a)
          split at q
          · rename_i hg; have := this.mp hg; omega
          · omega
      · rintro ⟨_, q, _⟩; exact absurd q hL
theorem kAt_2 {b : Nat → Nat} {a : Nat} : kAt b a = 2 ↔ (b a < 256 ∧ isLt (b a) = false ∧ isDg (b a) = true ∧ nmE b a - a ≤ 4) := by
  unfold kAt
  by_cases h0 : 256 ≤ b a
  · rw [if_pos h0]; omega
  · rw [if_neg h0]
    by_cases hL : isLt (b a) = true
    · rw [if_pos hL]
      generalize wno b (wdE b a) a = w
      constructor
      · intro q
        split at q
        · omega
        · split at q <;> omega
      · rintro ⟨_, q, _⟩; rw [hL] at q; cases q
    · rw [if_neg hL]
      by_cases hD : isDg (b a) = true
      · rw [if_pos hD]
        constructor
        · intro q
          refine ⟨by omega, by simpa using hL, hD, ?_⟩
          split at q
          · assumption
          · omega
        · rintro ⟨_, _, _, q⟩; rw [if_pos q]
      · rw [if_neg hD]
        constructor
        · intro q
          have := isSg_i (b a)
          split at q
          · rename_i hg; have := this.mp hg; omega
          · omega
        · rintro ⟨_, _, q, _⟩; exact absurd q hD
theorem kAt_0 {b : Nat → Nat} {a : Nat} : kAt b a = 0 ↔ 256 ≤ b a := by
  unfold kAt
  by_cases h0 : 256 ≤ b a
  · rw [if_pos h0]; simp [h0]
  · rw [if_neg h0]
    constructor
    · intro q
      exfalso
      by_cases hL : isLt (b a) = true
      · rw [if_pos hL] at q
        generalize wno b (wdE b a) a = w at q
        split at q
        · omega
        · split at q <;> omega
      · rw [if_neg hL] at q
        by_cases hD : isDg (b a) = true
        · rw [if_pos hD] at q; split at q <;> omega
        · rw [if_neg hD] at q
          have := isSg_i (b a)
          split at q
          · rename_i hg; have := this.mp hg; omega
          · omega
    · intro q; omega
theorem isKey_0 {b : Nat → Nat} {S B a : Nat} {m : Mem} (hB : By b S) (hR : Rt m b S B) (ha : a ≤ S) (hT : TkR m b a) (h26 : m.1 63 26 = 0) : X10_isWord (116 : Int32) (97 : Int32) (107 : Int32) (101 : Int32) (115 : Int32) (0 : Int32) (0 : Int32) (0 : Int32) m = some (if kAt b a = 10 then 1 else 0, m) := by
  have hk := kAt_w (b := b) (a := a) (i := 0) (by decide)
  by_cases h : b a < 256 ∧ isLt (b a) = true
  · rw [isWord_0 hB hR ha hT h26 h.1 h.2]
    have hw := wno_i (b := b) (e := wdE b a) (a := a) (i := 0) (by decide)
    congr 2
    apply ite_congr _ (fun _ => rfl) (fun _ => rfl)
    apply propext
    constructor
    · intro q; exact hk.mpr ⟨h.1, h.2, hw.mpr q⟩
    · intro q; exact hw.mp (hk.mp q).2.2
  · refine (isWord_n (c0 := 116) (c1 := 97) (c2 := 107) (c3 := 101) (c4 := 115) (c5 := 0) (c6 := 0) (c7 := 0) hT ?_).trans ?_
    · by_cases h2 : 256 ≤ b a
      · exact Or.inr h2
      · left
        rcases hq : isLt (b a) with _ | _
        · rfl
        · exact absurd ⟨by omega, hq⟩ h
    · rw [if_neg (fun q => h ⟨(hk.mp q).1, (hk.mp q).2.1⟩)]
theorem isKey_1 {b : Nat → Nat} {S B a : Nat} {m : Mem} (hB : By b S) (hR : Rt m b S B) (ha : a ≤ S) (hT : TkR m b a) (h26 : m.1 63 26 = 0) : X10_isWord (119 : Int32) (111 : Int32) (114 : Int32) (116 : Int32) (104 : Int32) (0 : Int32) (0 : Int32) (0 : Int32) m = some (if kAt b a = 11 then 1 else 0, m) := by
  have hk := kAt_w (b := b) (a := a) (i := 1) (by decide)
  by_cases h : b a < 256 ∧ isLt (b a) = true
  · rw [isWord_1 hB hR ha hT h26 h.1 h.2]
    have hw := wno_i (b := b) (e := wdE b a) (a := a) (i := 1) (by decide)
    congr 2
    apply ite_congr _ (fun _ => rfl) (fun _ => rfl)
    apply propext
    constructor
    · intro q; exact hk.mpr ⟨h.1, h.2, hw.mpr q⟩
    · intro q; exact hw.mp (hk.mp q).2.2
  · refine (isWord_n (c0 := 119) (c1 := 111) (c2 := 114) (c3 := 116) (c4 := 104) (c5 := 0) (c6 := 0) (c7 := 0) hT ?_).trans ?_
    · by_cases h2 : 256 ≤ b a
      · exact Or.inr h2
      · left
        rcases hq : isLt (b a) with _ | _
        · rfl
        · exact absurd ⟨by omega, hq⟩ h
    · rw [if_neg (fun q => h ⟨(hk.mp q).1, (hk.mp q).2.1⟩)]
theorem isKey_2 {b : Nat → Nat} {S B a : Nat} {m : Mem} (hB : By b S) (hR : Rt m b S B) (ha : a ≤ S) (hT : TkR m b a) (h26 : m.1 63 26 = 0) : X10_isWord (116 : Int32) (105 : Int32) (109 : Int32) (101 : Int32) (115 : Int32) (0 : Int32) (0 : Int32) (0 : Int32) m = some (if kAt b a = 12 then 1 else 0, m) := by
  have hk := kAt_w (b := b) (a := a) (i := 2) (by decide)
  by_cases h : b a < 256 ∧ isLt (b a) = true
  · rw [isWord_2 hB hR ha hT h26 h.1 h.2]
    have hw := wno_i (b := b) (e := wdE b a) (a := a) (i := 2) (by decide)
    congr 2
    apply ite_congr _ (fun _ => rfl) (fun _ => rfl)
    apply propext
    constructor
    · intro q; exact hk.mpr ⟨h.1, h.2, hw.mpr q⟩
    · intro q; exact hw.mp (hk.mp q).2.2
  · refine (isWord_n (c0 := 116) (c1 := 105) (c2 := 109) (c3 := 101) (c4 := 115) (c5 := 0) (c6 := 0) (c7 := 0) hT ?_).trans ?_
    · by_cases h2 : 256 ≤ b a
      · exact Or.inr h2
      · left
        rcases hq : isLt (b a) with _ | _
        · rfl
        · exact absurd ⟨by omega, hq⟩ h
    · rw [if_neg (fun q => h ⟨(hk.mp q).1, (hk.mp q).2.1⟩)]
theorem isKey_3 {b : Nat → Nat} {S B a : Nat} {m : Mem} (hB : By b S) (hR : Rt m b S B) (ha : a ≤ S) (hT : TkR m b a) (h26 : m.1 63 26 = 0) : X10_isWord (111 : Int32) (114 : Int32) (0 : Int32) (0 : Int32) (0 : Int32) (0 : Int32) (0 : Int32) (0 : Int32) m = some (if kAt b a = 13 then 1 else 0, m) := by
  have hk := kAt_w (b := b) (a := a) (i := 3) (by decide)
  by_cases h : b a < 256 ∧ isLt (b a) = true
  · rw [isWord_3 hB hR ha hT h26 h.1 h.2]
    have hw := wno_i (b := b) (e := wdE b a) (a := a) (i := 3) (by decide)
    congr 2
    apply ite_congr _ (fun _ => rfl) (fun _ => rfl)
    apply propext
    constructor
    · intro q; exact hk.mpr ⟨h.1, h.2, hw.mpr q⟩
    · intro q; exact hw.mp (hk.mp q).2.2
  · refine (isWord_n (c0 := 111) (c1 := 114) (c2 := 0) (c3 := 0) (c4 := 0) (c5 := 0) (c6 := 0) (c7 := 0) hT ?_).trans ?_
    · by_cases h2 : 256 ≤ b a
      · exact Or.inr h2
      · left
        rcases hq : isLt (b a) with _ | _
        · rfl
        · exact absurd ⟨by omega, hq⟩ h
    · rw [if_neg (fun q => h ⟨(hk.mp q).1, (hk.mp q).2.1⟩)]
theorem isKey_4 {b : Nat → Nat} {S B a : Nat} {m : Mem} (hB : By b S) (hR : Rt m b S B) (ha : a ≤ S) (hT : TkR m b a) (h26 : m.1 63 26 = 0) : X10_isWord (97 : Int32) (110 : Int32) (100 : Int32) (0 : Int32) (0 : Int32) (0 : Int32) (0 : Int32) (0 : Int32) m = some (if kAt b a = 14 then 1 else 0, m) := by
  have hk := kAt_w (b := b) (a := a) (i := 4) (by decide)
  by_cases h : b a < 256 ∧ isLt (b a) = true
  · rw [isWord_4 hB hR ha hT h26 h.1 h.2]
    have hw := wno_i (b := b) (e := wdE b a) (a := a) (i := 4) (by decide)
    congr 2
    apply ite_congr _ (fun _ => rfl) (fun _ => rfl)
    apply propext
    constructor
    · intro q; exact hk.mpr ⟨h.1, h.2, hw.mpr q⟩
    · intro q; exact hw.mp (hk.mp q).2.2
  · refine (isWord_n (c0 := 97) (c1 := 110) (c2 := 100) (c3 := 0) (c4 := 0) (c5 := 0) (c6 := 0) (c7 := 0) hT ?_).trans ?_
    · by_cases h2 : 256 ≤ b a
      · exact Or.inr h2
      · left
        rcases hq : isLt (b a) with _ | _
        · rfl
        · exact absurd ⟨by omega, hq⟩ h
    · rw [if_neg (fun q => h ⟨(hk.mp q).1, (hk.mp q).2.1⟩)]
theorem isKey_5 {b : Nat → Nat} {S B a : Nat} {m : Mem} (hB : By b S) (hR : Rt m b S B) (ha : a ≤ S) (hT : TkR m b a) (h26 : m.1 63 26 = 0) : X10_isWord (110 : Int32) (111 : Int32) (116 : Int32) (0 : Int32) (0 : Int32) (0 : Int32) (0 : Int32) (0 : Int32) m = some (if kAt b a = 15 then 1 else 0, m) := by
  have hk := kAt_w (b := b) (a := a) (i := 5) (by decide)
  by_cases h : b a < 256 ∧ isLt (b a) = true
  · rw [isWord_5 hB hR ha hT h26 h.1 h.2]
    have hw := wno_i (b := b) (e := wdE b a) (a := a) (i := 5) (by decide)
    congr 2
    apply ite_congr _ (fun _ => rfl) (fun _ => rfl)
    apply propext
    constructor
    · intro q; exact hk.mpr ⟨h.1, h.2, hw.mpr q⟩
    · intro q; exact hw.mp (hk.mp q).2.2
  · refine (isWord_n (c0 := 110) (c1 := 111) (c2 := 116) (c3 := 0) (c4 := 0) (c5 := 0) (c6 := 0) (c7 := 0) hT ?_).trans ?_
    · by_cases h2 : 256 ≤ b a
      · exact Or.inr h2
      · left
        rcases hq : isLt (b a) with _ | _
        · rfl
        · exact absurd ⟨by omega, hq⟩ h
    · rw [if_neg (fun q => h ⟨(hk.mp q).1, (hk.mp q).2.1⟩)]
theorem name_r {b : Nat → Nat} {S B a : Nat} {m : Mem} (hB : By b S) (hR : Rt m b S B) (ha : a ≤ S) (hT : TkR m b a) (h26 : m.1 63 26 = 0) (hb : b a < 256) (hL : isLt (b a) = true) : X10_name m = if kAt b a = 3 then some (m.1 63 (13 + vAt b a), m) else bv (X10_fail m) fun m149 => some ((0 : Int32), m149) := by
  have hk := kAt_3 (b := b) (a := a)
  have hv : vAt b a = wno b (wdE b a) a - 6 := by unfold vAt; rw [if_pos hL]
  unfold X10_name
  have w6 := wno_i (b := b) (e := wdE b a) (a := a) (i := 6) (by decide)
  rw [isWord_6 hB hR ha hT h26 hb hL, bi_s]
  by_cases q6 : wm b (wdE b a) (wds.getD 6 []) a = true
  · rw [if_pos (show wm b (wdE b a) [112, 108, 97, 99, 101] a = true from q6), if_neg (by decide), if_pos (hk.mpr ⟨hb, hL, by have := w6.mpr q6; omega⟩), hv, w6.mpr q6]
  rw [if_neg (show ¬ wm b (wdE b a) [112, 108, 97, 99, 101] a = true from q6), if_pos rfl]
  have w7 := wno_i (b := b) (e := wdE b a) (a := a) (i := 7) (by decide)
  rw [isWord_7 hB hR ha hT h26 hb hL, bi_s]
  by_cases q7 : wm b (wdE b a) (wds.getD 7 []) a = true
  · rw [if_pos (show wm b (wdE b a) [110, 117, 109, 98, 101, 114] a = true from q7), if_neg (by decide), if_pos (hk.mpr ⟨hb, hL, by have := w7.mpr q7; omega⟩), hv, w7.mpr q7]
  rw [if_neg (show ¬ wm b (wdE b a) [110, 117, 109, 98, 101, 114] a = true from q7), if_pos rfl]
  have w8 := wno_i (b := b) (e := wdE b a) (a := a) (i := 8) (by decide)
  rw [isWord_8 hB hR ha hT h26 hb hL, bi_s]
  by_cases q8 : wm b (wdE b a) (wds.getD 8 []) a = true
  · rw [if_pos (show wm b (wdE b a) [107, 110, 111, 119, 110] a = true from q8), if_neg (by decide), if_pos (hk.mpr ⟨hb, hL, by have := w8.mpr q8; omega⟩), hv, w8.mpr q8]
  rw [if_neg (show ¬ wm b (wdE b a) [107, 110, 111, 119, 110] a = true from q8), if_pos rfl]
  have w9 := wno_i (b := b) (e := wdE b a) (a := a) (i := 9) (by decide)
  rw [isWord_9 hB hR ha hT h26 hb hL, bi_s]
  by_cases q9 : wm b (wdE b a) (wds.getD 9 []) a = true
  · rw [if_pos (show wm b (wdE b a) [102, 97, 114] a = true from q9), if_neg (by decide), if_pos (hk.mpr ⟨hb, hL, by have := w9.mpr q9; omega⟩), hv, w9.mpr q9]
  rw [if_neg (show ¬ wm b (wdE b a) [102, 97, 114] a = true from q9), if_pos rfl]
  have w10 := wno_i (b := b) (e := wdE b a) (a := a) (i := 10) (by decide)
  rw [isWord_10 hB hR ha hT h26 hb hL, bi_s]
  by_cases q10 : wm b (wdE b a) (wds.getD 10 []) a = true
  · rw [if_pos (show wm b (wdE b a) [104, 101, 114, 101] a = true from q10), if_neg (by decide), if_pos (hk.mpr ⟨hb, hL, by have := w10.mpr q10; omega⟩), hv, w10.mpr q10]
  rw [if_neg (show ¬ wm b (wdE b a) [104, 101, 114, 101] a = true from q10), if_pos rfl]
  have w11 := wno_i (b := b) (e := wdE b a) (a := a) (i := 11) (by decide)
  rw [isWord_11 hB hR ha hT h26 hb hL, bi_s]
  by_cases q11 : wm b (wdE b a) (wds.getD 11 []) a = true
  · rw [if_pos (show wm b (wdE b a) [114, 111, 117, 110, 100] a = true from q11), if_neg (by decide), if_pos (hk.mpr ⟨hb, hL, by have := w11.mpr q11; omega⟩), hv, w11.mpr q11]
  rw [if_neg (show ¬ wm b (wdE b a) [114, 111, 117, 110, 100] a = true from q11), if_pos rfl]
  rw [if_neg]
  intro q
  obtain ⟨_, _, h6, h12⟩ := hk.mp q
  generalize hw : wno b (wdE b a) a = w at *
  rcases (show w = 6 ∨ w = 7 ∨ w = 8 ∨ w = 9 ∨ w = 10 ∨ w = 11 by omega) with e | e | e | e | e | e
  · exact q6 (w6.mp e)
  · exact q7 (w7.mp e)
  · exact q8 (w8.mp e)
  · exact q9 (w9.mp e)
  · exact q10 (w10.mp e)
  · exact q11 (w11.mp e)
theorem tok2_r {b : Nat → Nat} {a : Nat} {m : Mem} (hT : TkR m b a) : (m.1 63 22 = 2) = (kAt b a = 2) := by
  apply propext
  rw [hT.2.1, kAt_2]
  by_cases h0 : 256 ≤ b a
  · rw [if_pos h0]; exact ⟨fun q => (by cases q), fun q => by omega⟩
  · rw [if_neg h0]
    by_cases hL : isLt (b a) = true
    · rw [if_pos hL]; exact ⟨fun q => (by cases q), fun q => by rw [hL] at q; cases q.2.1⟩
    · rw [if_neg hL]
      by_cases hD : isDg (b a) = true
      · rw [if_pos hD]
        by_cases h4 : nmE b a - a ≤ 4
        · rw [if_pos h4]; exact ⟨fun _ => ⟨by omega, by simpa using hL, hD, h4⟩, fun _ => rfl⟩
        · rw [if_neg h4]; exact ⟨fun q => (by cases q), fun q => absurd q.2.2.2 h4⟩
      · rw [if_neg hD]
        constructor
        · intro q; split at q <;> cases q
        · intro q; exact absurd q.2.2.1 hD
theorem tok1_r {b : Nat → Nat} {a : Nat} {m : Mem} (hT : TkR m b a) : (m.1 63 22 = 1) = (b a < 256 ∧ isLt (b a) = true) := by
  apply propext
  rw [hT.2.1]
  by_cases h0 : 256 ≤ b a
  · rw [if_pos h0]; exact ⟨fun q => (by cases q), fun q => by omega⟩
  · rw [if_neg h0]
    by_cases hL : isLt (b a) = true
    · rw [if_pos hL]; exact ⟨fun q => ⟨by omega, hL⟩, fun q => rfl⟩
    · rw [if_neg hL]
      constructor
      · intro q
        exfalso
        split at q
        · split at q <;> cases q
        · split at q <;> cases q
      · intro q; exact absurd q.2 hL
theorem tok0_r {b : Nat → Nat} {a : Nat} {m : Mem} (hT : TkR m b a) : (m.1 63 22 = 0) = (kAt b a = 0) := by
  apply propext
  rw [hT.2.1, kAt_0]
  by_cases h0 : 256 ≤ b a
  · rw [if_pos h0]; exact ⟨fun q => h0, fun q => rfl⟩
  · rw [if_neg h0]
    constructor
    · intro q
      exfalso
      split at q
      · cases q
      · split at q
        · split at q <;> cases q
        · split at q <;> cases q
    · intro q; exact absurd q h0
theorem num_r {b : Nat → Nat} {a : Nat} {m : Mem} (hT : TkR m b a) (h : kAt b a = 2) : (m.2 63 24).toInt32 = nI (vAt b a) := by
  obtain ⟨h1, h2, h3, h4⟩ := kAt_2.mp h
  rw [hT.2.2.2.1 h1 h2 h3 h4, lN_i]
  unfold vAt
  rw [if_neg (by rw [h2]; decide)]
theorem pos_r {b : Nat → Nat} {a : Nat} {m : Mem} (hT : TkR m b a) (h : kAt b a ≠ 1) : m.1 63 21 = nI (nAt b a) := by
  apply hT.2.2.1
  by_cases h0 : 256 ≤ b a
  · exact Or.inl h0
  · by_cases hL : isLt (b a) = true
    · exact Or.inr (Or.inl hL)
    · by_cases hD : isDg (b a) = true
      · exact Or.inr (Or.inr (Or.inl hD))
      · by_cases hG : isSg (b a) = true
        · exact Or.inr (Or.inr (Or.inr hG))
        · exfalso; apply h; unfold kAt; rw [if_neg h0, if_neg hL, if_neg hD, if_neg hG]
