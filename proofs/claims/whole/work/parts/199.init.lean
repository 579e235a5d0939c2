/-! what holds at the beginning -/
theorem o_init : ob_init Iv := by
  intro m0
  obtain ⟨n13, n14, n04, n301, n332⟩ := Mn_1 (nM m0 0)
  obtain ⟨mW, a1, a2, a3, a4, a5⟩ := wr_l 10000 0 (Mnew (nM m0 0)) (by decide) (by decide) n301 (fun i hi => absurd hi (Nat.not_lt_zero _))
  obtain ⟨r8, r9, mA, bb, b2, b3, b4, b5⟩ := read_c b0_b (m := mW) ⟨a2, a3⟩
  rw [b0_r] at b5
  obtain ⟨b51, b52, b53, b54, b55, b56⟩ := b5
  have hcl : (mA.1 30 9).toNatClampNeg = 6 := by rw [b55]; rfl
  obtain ⟨mB, i1, i2, i3, i4, i5, i6, i7, i8, i9⟩ := init_c (t := 52) (L := 6) (m := mA) (c1 := [-5, -9]) (c2 := [-4]) (c3 := [1, -4, -12]) (by decide) rfl (by decide) b56
  have FA : ∀ x j, x ≠ 30 → x ≠ 31 → x ≠ 32 → ¬ (52 ≤ x ∧ x ≤ 54) → mB.1 x j = (Mnew (nM m0 0)).1 x j := fun x j h1 h2 h3 h4 => by rw [i8 x j (by omega), b2 x j h1 h3, a4 x j h1 h2]
  have FA2 : ∀ x j, ¬ (52 ≤ x ∧ x ≤ 54) → mB.2 x j = (Mnew (nM m0 0)).2 x j := fun x j h => by rw [i9 x j (by omega), b3, a5]
  have hB33 : mB.1 33 2 = nI 0 := by rw [FA _ _ (by omega) (by omega) (by omega) (by omega)]; exact n332
  have FC : ∀ x j, ¬ (55 ≤ x ∧ x ≤ 78) → x ≠ 33 → (Mref (nM (Mold mB) 63)).1 x j = mB.1 x j := fun x j h1 h2 => by
    rw [Mref_r, if_neg (by omega), if_neg (by omega), rMn (by omega), Mold_r _ _ _ (by omega), if_neg (by omega)]
  obtain ⟨m9, c1, c2, c3, c4, c5, c6, c7⟩ := i129 (Mref (nM (Mold mB) 63)) (fun k _ => by rw [Mref_r, if_pos (by decide)]; rfl)
  have F9 : ∀ x j, ¬ (55 ≤ x ∧ x ≤ 78) → x ≠ 33 → m9.1 x j = mB.1 x j := fun x j h1 h2 => by rw [c6 x j (by omega) (by omega) (by omega) (by omega), FC x j h1 h2]
  have F63 : ∀ j, j ≠ 3 → j ≠ 33 → m9.1 63 j = nI 0 := fun j h1 h2 => by rw [c6 63 j (by omega) (by omega) (by omega) (by omega), Mref_r, if_neg (by omega), if_neg (by omega), rMz]; rfl
  have F6 : ∀ x j, (66 ≤ x ∧ x ≤ 69 ∨ 71 ≤ x ∧ x ≤ 78) → m9.1 x j = nI 0 := fun x j h => by rw [c6 x j (by omega) (by omega) (by omega) (by omega), Mref_r, if_pos (by omega)]; rfl
  have hx : X3_write (Mnew (nM m0 0)) = some mW := a1
  refine ⟨mW, mA, mB, m9, r8, r9, fun _ => 6, hx, bb, b51, hcl, ⟨?_, ?_, ?_, ?_⟩, ?_, ?_, ?_, c1, fun _ => C0, fun _ => 0, fun _ => 0, fun _ _ => 0, fun _ _ => 0, fun _ => 0, 0, 0, Nat.le_refl _, ⟨by decide, fun k hk => ?_, ⟨fun _ _ => Nat.zero_le _, fun _ _ => rfl⟩, fun k hk => ?_, fun a ha hb => ?_, ?_, by decide, fun i hi => .inl ?_⟩, ⟨by decide, fun k hk => ?_, ⟨fun _ _ => Nat.zero_le _, fun _ _ => rfl⟩, fun k hk => F6 67 k (by omega), c2⟩, ⟨fun p hp => ?_, fun j p h1 h2 hp => ?_⟩, ⟨F63 11 (by omega) (by omega), F63 7 (by omega) (by omega), F63 4 (by omega) (by omega), fun p hp => ⟨F6 69 _ (by omega), F6 69 _ (by omega), F6 69 _ (by omega), F6 69 _ (by omega), F6 69 _ (by omega)⟩, fun p hp => absurd hp (Nat.not_lt_zero _)⟩, ⟨Nat.zero_le _, Nat.zero_le _, Nat.le_refl _, fun p hp => ⟨Nat.zero_le _, Nat.zero_le _, Nat.zero_le _, Nat.zero_le _, Nat.zero_le _, Nat.zero_le _⟩⟩, .inl ⟨?_, ?_⟩, ⟨by decide, ?_, F63 6 (by omega) (by omega), fun i hi => absurd hi (Nat.not_lt_zero _)⟩, ⟨?_, c5⟩, fun i hi => .inl ⟨?_, F6 75 i (by omega)⟩⟩
  · rw [b55]; decide
  · rw [b55]; decide
  · rw [hcl]; decide
  · rw [hcl, b52, b53]; exact i1
  · rw [hB33]; decide
  · rw [hB33]; decide
  · rw [hB33]; rfl
  · have hk0 : k = 0 := by omega
    subst hk0
    refine ⟨⟨by decide, by decide, ?_, ?_, by decide, ?_, ?_, ?_, fun i hi => ?_⟩, ?_, ?_, Tv_of b0_b b0_r⟩
    · exact ln_0'
    · exact ln_0
    · show m9.1 54 0 = _; rw [F9 _ _ (by omega) (by omega)]; exact i4
    · show m9.1 54 1 = _; rw [F9 _ _ (by omega) (by omega)]; exact i5
    · show m9.1 54 2 = _; rw [F9 _ _ (by omega) (by omega)]; exact i6
    · show m9.1 53 i = _; rw [F9 _ _ (by omega) (by omega)]; exact i7 i hi
    · show m9.1 52 2 = _; rw [F9 _ _ (by omega) (by omega)]; exact i2
    · show m9.1 52 3 = _; rw [F9 _ _ (by omega) (by omega)]; exact i3
  · rw [F9 _ _ (by omega) (by omega), FA _ _ (by omega) (by omega) (by omega) (by omega)]; exact Mn_2 _ _
  · rw [F9 _ _ (by omega) (by omega), FA _ _ (by omega) (by omega) (by omega) (by omega), n13, show (0 : Int32) = nI 0 from rfl, bp_0] at hb
    exact absurd hb (by decide)
  · rw [F9 _ _ (by omega) (by omega), FA _ _ (by omega) (by omega) (by omega) (by omega)]; exact n14
  · rw [c7, Mref_2 _ _ _ (by omega), rM2n (by omega), Mold_2 _ _ _ (by omega), FA2 _ _ (by omega), Mn_v _ hi]
    decide
  · have hk0 : k = 0 := by omega
    subst hk0
    exact ⟨b1, 48, b1_b, ⟨by decide, c4, fun i hi => by rw [show 160 * 0 + i = i by omega]; exact c3 i hi⟩, b1_r⟩
  · rw [F9 _ _ (by omega) (by omega), FA _ _ (by omega) (by omega) (by omega) (by omega)]; exact Mn_5 _ hp
  · rw [F9 _ _ (by omega) (by omega), FA _ _ (by omega) (by omega) (by omega) (by omega)]; exact Mn_6 _ h1 h2
  · rw [F9 _ _ (by omega) (by omega), FA _ _ (by omega) (by omega) (by omega) (by omega)]; exact n04
  · rw [c6 _ _ (by omega) (by omega) (by omega) (by omega), Mref_r, if_neg (by omega), if_pos ⟨rfl, rfl⟩]; rfl
  · rw [F9 _ _ (by omega) (by omega), i8 _ _ (by omega)]; exact b4
  · rw [c6 _ _ (by omega) (by omega) (by omega) (by omega), Mref_r, if_neg (by omega), if_neg (by omega), rMn (by omega), Mold_r _ _ _ (by omega), if_pos ⟨rfl, rfl⟩, hB33]; rfl
  · rw [c6 _ _ (by omega) (by omega) (by omega) (by omega), Mref_r, if_neg (by omega), if_neg (by omega), rMn (by omega)]; exact Mold_s _ hi
