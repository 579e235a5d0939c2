/-! TEXT: the reading of a phrase -/
def bR (x : Nat ⊕ (List Int32 × Nat)) (f : List Int32 → Nat → Nat ⊕ (List Int32 × Nat)) : Nat ⊕ (List Int32 × Nat) := match x with
  | .inl e => .inl e
  | .inr (c, q) => f c q
theorem bR_l (e : Nat) (f : List Int32 → Nat → Nat ⊕ (List Int32 × Nat)) : bR (.inl e) f = .inl e := rfl
theorem bR_r (c : List Int32) (q : Nat) (f : List Int32 → Nat → Nat ⊕ (List Int32 × Nat)) : bR (.inr (c, q)) f = f c q := rfl
/-- what a token joins at a level -/
def jn (L k : Nat) : Option Nat := if L = 0 ∧ k = 13 then some 0 else if L = 1 ∧ k = 14 then some 1 else if L = 2 ∧ k = 60 then some 3 else if L = 2 ∧ k = 61 then some 4 else if L = 3 ∧ k = 43 then some 5 else if L = 3 ∧ k = 45 then some 6 else if L = 4 ∧ k = 42 then some 7 else none
/-- sel 0 .. 4: a phrase of that level; 5: one; 10 .. 14: what is joined to acc at level sel - 10 -/
def ps (b : Nat → Nat) : Nat → Nat → Nat → List Int32 → Nat → Nat ⊕ (List Int32 × Nat)
  | 0, _, _, _, _ => .inl 0
  | n + 1, sel, d, acc, p =>
    if sel = 5 then
      if tK b p = 2 then .inr ([nI (tV b p)], tN b p)
      else if tK b p = 3 then .inr ([-1 - nI (tV b p)], tN b p)
      else if tK b p = 40 then
        if d < 5 then bR (ps b n 0 (d + 1) [] (tN b p)) fun c q => if tK b q = 41 then .inr (c, tN b q) else .inl (tkA b q)
        else .inl (tkA b p)
      else if tK b p = 45 then
        if d < 5 then bR (ps b n 5 (d + 1) [] (tN b p)) fun c q => .inr (c ++ [-15], q)
        else .inl (tkA b p)
      else .inl (tkA b p)
    else if sel < 5 then
      if sel = 2 ∧ tK b p = 15 then
        if d < 5 then bR (ps b n 2 (d + 1) [] (tN b p)) fun c q => .inr (c ++ [-9], q)
        else .inl (tkA b p)
      else bR (ps b n (sel + 1) d [] p) fun c q => ps b n (sel + 10) d c q
    else
      match jn (sel - 10) (tK b p) with
      | none => .inr (acc, p)
      | some o => bR (ps b n (sel - 9) d [] (tN b p)) fun c q => if sel = 12 then .inr (acc ++ (c ++ [-7 - nI o]), q) else ps b n sel d (acc ++ (c ++ [-7 - nI o])) q
theorem jn_k {L k o : Nat} (h : jn L k = some o) : k ≠ 0 ∧ k ≠ 1 ∧ o < 8 ∧ o ≠ 2 := by
  unfold jn at h
  repeat' split at h
  all_goals first | (cases h; omega) | cases h
theorem ps_pr {b : Nat → Nat} {S : Nat} (hB : By b S) : ∀ (n sel d : Nat) (acc : List Int32) (p : Nat) (c : List Int32) (q : Nat), p ≤ S → ps b n sel d acc p = .inr (c, q) → q ≤ S ∧ (sel ≤ 5 → p < q ∧ c.length + p ≤ q) ∧ p ≤ q ∧ c.length + p ≤ q + acc.length := by
  intro n
  induction n with
  | zero => intro sel d acc p c q _ h; rw [ps] at h; cases h
  | succ n ih =>
    intro sel d acc p c q hp h
    rw [ps] at h
    have hN := tN_le hB hp
    have hG := tN_gt hB hp
    by_cases h5 : sel = 5
    · subst h5
      rw [if_pos rfl] at h
      by_cases k2 : tK b p = 2
      · rw [if_pos k2] at h
        have := hG (by omega)
        cases h
        simp only [List.length_cons, List.length_nil]; omega
      rw [if_neg k2] at h
      by_cases k3 : tK b p = 3
      · rw [if_pos k3] at h
        have := hG (by omega)
        cases h
        simp only [List.length_cons, List.length_nil]; omega
      rw [if_neg k3] at h
      by_cases k40 : tK b p = 40
      · rw [if_pos k40] at h
        have := hG (by omega)
        by_cases hd : d < 5
        · rw [if_pos hd] at h
          rcases hr : ps b n 0 (d + 1) [] (tN b p) with e | ⟨c2, q2⟩
          · rw [hr, bR_l] at h; cases h
          · rw [hr, bR_r] at h
            obtain ⟨i1, i2, i3, i4⟩ := ih 0 (d + 1) [] (tN b p) c2 q2 hN.2 hr
            have i5 := i2 (by omega)
            by_cases k41 : tK b q2 = 41
            · rw [if_pos k41] at h
              have g1 := tN_le hB i1
              have g2 := tN_gt hB i1 (by omega)
              cases h
              omega
            · rw [if_neg k41] at h; cases h
        · rw [if_neg hd] at h; cases h
      rw [if_neg k40] at h
      by_cases k45 : tK b p = 45
      · rw [if_pos k45] at h
        have := hG (by omega)
        by_cases hd : d < 5
        · rw [if_pos hd] at h
          rcases hr : ps b n 5 (d + 1) [] (tN b p) with e | ⟨c2, q2⟩
          · rw [hr, bR_l] at h; cases h
          · rw [hr, bR_r] at h
            obtain ⟨i1, i2, i3, i4⟩ := ih 5 (d + 1) [] (tN b p) c2 q2 hN.2 hr
            have i5 := i2 (by omega)
            cases h
            simp only [List.length_append, List.length_cons, List.length_nil]
            omega
        · rw [if_neg hd] at h; cases h
      rw [if_neg k45] at h; cases h
    · rw [if_neg h5] at h
      by_cases hs : sel < 5
      · rw [if_pos hs] at h
        by_cases h15 : sel = 2 ∧ tK b p = 15
        · rw [if_pos h15] at h
          have := hG (by omega)
          by_cases hd : d < 5
          · rw [if_pos hd] at h
            rcases hr : ps b n 2 (d + 1) [] (tN b p) with e | ⟨c2, q2⟩
            · rw [hr, bR_l] at h; cases h
            · rw [hr, bR_r] at h
              obtain ⟨i1, i2, i3, i4⟩ := ih 2 (d + 1) [] (tN b p) c2 q2 hN.2 hr
              have i5 := i2 (by omega)
              cases h
              simp only [List.length_append, List.length_cons, List.length_nil]
              omega
          · rw [if_neg hd] at h; cases h
        · rw [if_neg h15] at h
          rcases hr : ps b n (sel + 1) d [] p with e | ⟨c2, q2⟩
          · rw [hr, bR_l] at h; cases h
          · rw [hr, bR_r] at h
            obtain ⟨i1, i2, i3, i4⟩ := ih (sel + 1) d [] p c2 q2 hp hr
            have i5 := i2 (by omega)
            obtain ⟨j1, j2, j3, j4⟩ := ih (sel + 10) d c2 q2 c q i1 h
            omega
      · rw [if_neg hs] at h
        rcases hj : jn (sel - 10) (tK b p) with _ | o
        · rw [hj] at h
          cases h
          omega
        · rw [hj] at h
          have hk := jn_k hj
          have := hG (by omega)
          simp only at h
          rcases hr : ps b n (sel - 9) d [] (tN b p) with e | ⟨c2, q2⟩
          · rw [hr, bR_l] at h; cases h
          · rw [hr, bR_r] at h
            obtain ⟨i1, i2, i3, i4⟩ := ih (sel - 9) d [] (tN b p) c2 q2 hN.2 hr
            simp only [List.length_nil] at i4
            by_cases h12 : sel = 12
            · rw [if_pos h12] at h
              cases h
              simp only [List.length_append, List.length_cons, List.length_nil]
              omega
            · rw [if_neg h12] at h
              obtain ⟨j1, j2, j3, j4⟩ := ih sel d _ q2 c q i1 h
              simp only [List.length_append, List.length_cons, List.length_nil] at j4
              omega
