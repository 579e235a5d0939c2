/-! the beginning, whole -/
theorem rMn {m : Mem} {a x j : Nat} (h : x ≠ a) : (nM m a).1 x j = m.1 x j := by rw [rM, if_neg h]
theorem rMz {m : Mem} {a j : Nat} : (nM m a).1 a j = 0 := by rw [rM, if_pos rfl]
theorem rM2n {m : Mem} {a x j : Nat} (h : x ≠ a) : (nM m a).2 x j = m.2 x j := by rw [rM2, if_neg h]
theorem Mref_r (m : Mem) (x j : Nat) : (Mref m).1 x j = if 64 ≤ x ∧ x ≤ 78 then 0 else if x = 63 ∧ j = 33 then -1 else m.1 x j := by
  unfold Mref
  by_cases h : 64 ≤ x ∧ x ≤ 78
  · rw [if_pos h]
    rcases (show x = 64 ∨ x = 65 ∨ x = 66 ∨ x = 67 ∨ x = 68 ∨ x = 69 ∨ x = 70 ∨ x = 71 ∨ x = 72 ∨ x = 73 ∨ x = 74 ∨ x = 75 ∨ x = 76 ∨ x = 77 ∨ x = 78 by omega) with rfl | rfl | rfl | rfl | rfl | rfl | rfl | rfl | rfl | rfl | rfl | rfl | rfl | rfl | rfl
    all_goals simp (disch := omega) only [rMn, rIn, rMz]
  · rw [if_neg h]
    by_cases q : x = 63 ∧ j = 33
    · rw [if_pos q, q.1, q.2]
      simp (disch := omega) only [rMn, rIs]
    · rw [if_neg q]
      simp (disch := omega) only [rMn, rIn]
theorem Mold_r (m : Mem) (x j : Nat) (h : ¬ (55 ≤ x ∧ x ≤ 62)) : (Mold m).1 x j = if x = 33 ∧ j = 2 then m.1 33 2 + 1 else m.1 x j := by
  unfold Mold MX6_init_55 MX6_init_57 MX6_init_59 MX6_init_61
  by_cases q : x = 33 ∧ j = 2
  · rw [if_pos q, q.1, q.2]
    simp (disch := omega) only [rMn, rIn, rIs]
  · rw [if_neg q]
    simp (disch := omega) only [rMn, rIn]
theorem Mold_s (m : Mem) {i : Nat} (hi : i < 4) : (Mold m).1 (55 + 2 * i) 0 = -1 := by
  unfold Mold MX6_init_55 MX6_init_57 MX6_init_59 MX6_init_61
  rcases (show i = 0 ∨ i = 1 ∨ i = 2 ∨ i = 3 by omega) with rfl | rfl | rfl | rfl
  all_goals simp [rM, rI]
theorem Mref_2 (m : Mem) (x j : Nat) (h : ¬ (64 ≤ x ∧ x ≤ 78)) : (Mref m).2 x j = m.2 x j := by
  unfold Mref
  simp (disch := omega) only [rM2n, rI2]
theorem Mold_2 (m : Mem) (x j : Nat) (h : ¬ (55 ≤ x ∧ x ≤ 62)) : (Mold m).2 x j = m.2 x j := by
  unfold Mold MX6_init_55 MX6_init_57 MX6_init_59 MX6_init_61
  simp (disch := omega) only [rM2n, rI2]
theorem Mn_2 (m : Mem) (j : Nat) : (Mnew m).1 2 j = 0 := by
  simp [Mnew, MX2_init_50, MX5_init_33, MX8_init_38, MX8_init_40, MX8_init_42, MX8_init_44, MX8_init_46, MX8_init_48, MX3_init_30, MX0_init_23, MX0_init_16, MX4_init_12, MX0_init_5, MX4_init_1, rM, rI, rJ1]
theorem Mn_1 (m : Mem) : (Mnew m).1 1 3 = 0 ∧ (Mnew m).1 1 4 = 0 ∧ (Mnew m).1 0 4 = 0 ∧ (Mnew m).1 30 1 = 0 ∧ (Mnew m).1 33 2 = 0 := by
  simp [Mnew, MX2_init_50, MX5_init_33, MX8_init_38, MX8_init_40, MX8_init_42, MX8_init_44, MX8_init_46, MX8_init_48, MX3_init_30, MX0_init_23, MX0_init_16, MX4_init_12, MX0_init_5, MX4_init_1, rM, rI, rJ1]
theorem Mn_5 (m : Mem) {p : Nat} (hp : p < 3) : (Mnew m).1 5 p = 0 := by
  rcases (show p = 0 ∨ p = 1 ∨ p = 2 by omega) with rfl | rfl | rfl
  all_goals simp [Mnew, MX2_init_50, MX5_init_33, MX8_init_38, MX8_init_40, MX8_init_42, MX8_init_44, MX8_init_46, MX8_init_48, MX3_init_30, MX0_init_23, MX0_init_16, MX4_init_12, MX0_init_5, MX4_init_1, rM, rI, rJ1]
theorem Mn_6 (m : Mem) {q p : Nat} (h1 : 1 ≤ q) (h2 : q ≤ 6) : (Mnew m).1 (5 + q) p = 0 := by
  rcases (show q = 1 ∨ q = 2 ∨ q = 3 ∨ q = 4 ∨ q = 5 ∨ q = 6 by omega) with rfl | rfl | rfl | rfl | rfl | rfl
  all_goals simp [Mnew, MX2_init_50, MX5_init_33, MX8_init_38, MX8_init_40, MX8_init_42, MX8_init_44, MX8_init_46, MX8_init_48, MX3_init_30, MX0_init_23, MX0_init_16, MX4_init_12, MX0_init_5, MX4_init_1, rM, rI, rJ1]
theorem Mn_v (m : Mem) {i : Nat} (hi : i < 6) : (Mnew m).2 (38 + 2 * i) 0 = -1 := by
  rcases (show i = 0 ∨ i = 1 ∨ i = 2 ∨ i = 3 ∨ i = 4 ∨ i = 5 by omega) with rfl | rfl | rfl | rfl | rfl | rfl
  all_goals simp [Mnew, MX2_init_50, MX5_init_33, MX8_init_38, MX8_init_40, MX8_init_42, MX8_init_44, MX8_init_46, MX8_init_48, MX3_init_30, MX0_init_23, MX0_init_16, MX4_init_12, MX0_init_5, MX4_init_1, rM2, rI2, rJ]
theorem spel {m : Mem} {t : Nat} {p0 v0 v1 v2 v3 v4 v5 v6 v7 : Int32} (hp : p0 = nI t) (ht : t ≤ 900) : ∃ m', X10_spell p0 v0 v1 v2 v3 v4 v5 v6 v7 m = some m' ∧ (∀ x j, m'.1 x j = if x = 64 ∧ t ≤ j ∧ j < t + 8 then [v0, v1, v2, v3, v4, v5, v6, v7].getD (j - t) 0 else m.1 x j) ∧ m'.2 = m.2 := by
  obtain ⟨m', a1, a2, a3⟩ := spell_r (m := m) (t := t) (v := fun k => [v0, v1, v2, v3, v4, v5, v6, v7].getD k 0) ht
  rw [← hp] at a1
  exact ⟨m', a1, a2, a3⟩
theorem sp0 : ∀ k, k < 8 → ([116, 97, 107, 101, 115, 32, 110, 111] : List Int32).getD k 0 = nI (b1 (0 + k)) := by decide +kernel
theorem sp1 : ∀ k, k < 8 → ([116, 32, 104, 101, 114, 101, 32, 59] : List Int32).getD k 0 = nI (b1 (8 + k)) := by decide +kernel
theorem sp2 : ∀ k, k < 8 → ([32, 119, 111, 114, 116, 104, 32, 102] : List Int32).getD k 0 = nI (b1 (16 + k)) := by decide +kernel
theorem sp3 : ∀ k, k < 8 → ([97, 114, 32, 59, 32, 116, 105, 109] : List Int32).getD k 0 = nI (b1 (24 + k)) := by decide +kernel
theorem sp4 : ∀ k, k < 8 → ([101, 115, 32, 49, 32, 43, 32, 102] : List Int32).getD k 0 = nI (b1 (32 + k)) := by decide +kernel
theorem sp5 : ∀ k, k < 8 → ([97, 114, 32, 59, 32, 32, 32, 32] : List Int32).getD k 0 = nI (b1 (40 + k)) := by decide +kernel
theorem i129 (m : Mem) (h : Ro m 67 (fun _ => 0)) : ∃ m9, X10_init_129 m = some m9 ∧ (∀ q, q < 64 → m9.1 70 q = nI (fwD (fun _ => 0) q)) ∧ (∀ i, i < 48 → m9.1 64 i = nI (b1 i)) ∧ m9.1 65 0 = nI 48 ∧ m9.1 63 3 = nI 1 ∧ (∀ x j, x ≠ 70 → x ≠ 64 → ¬ (x = 65 ∧ j = 0) → ¬ (x = 63 ∧ j = 3) → m9.1 x j = m.1 x j) ∧ m9.2 = m.2 := by
  obtain ⟨m0, s1, s2, s3⟩ := spreads_r (r := fun _ => 0) (m := m) (fun _ _ => Nat.zero_le _) h
  obtain ⟨ma, a1, a2, a3⟩ := spel (m := m0) (t := 0) (p0 := 0) (v0 := 116) (v1 := 97) (v2 := 107) (v3 := 101) (v4 := 115) (v5 := 32) (v6 := 110) (v7 := 111) rfl (by decide)
  obtain ⟨mb, bb, b2, b3⟩ := spel (m := ma) (t := 8) (p0 := 8) (v0 := 116) (v1 := 32) (v2 := 104) (v3 := 101) (v4 := 114) (v5 := 101) (v6 := 32) (v7 := 59) rfl (by decide)
  obtain ⟨mc, c1, c2, c3⟩ := spel (m := mb) (t := 16) (p0 := 16) (v0 := 32) (v1 := 119) (v2 := 111) (v3 := 114) (v4 := 116) (v5 := 104) (v6 := 32) (v7 := 102) rfl (by decide)
  obtain ⟨md, d1, d2, d3⟩ := spel (m := mc) (t := 24) (p0 := 24) (v0 := 97) (v1 := 114) (v2 := 32) (v3 := 59) (v4 := 32) (v5 := 116) (v6 := 105) (v7 := 109) rfl (by decide)
  obtain ⟨me, e1, e2, e3⟩ := spel (m := md) (t := 32) (p0 := 32) (v0 := 101) (v1 := 115) (v2 := 32) (v3 := 49) (v4 := 32) (v5 := 43) (v6 := 32) (v7 := 102) rfl (by decide)
  obtain ⟨mf, f1, f2, f3⟩ := spel (m := me) (t := 40) (p0 := 40) (v0 := 97) (v1 := 114) (v2 := 32) (v3 := 59) (v4 := 32) (v5 := 32) (v6 := 32) (v7 := 32) rfl (by decide)
  have F : ∀ x j, x ≠ 64 → mf.1 x j = m0.1 x j := fun x j q => by
    rw [f2, if_neg (by omega), e2, if_neg (by omega), d2, if_neg (by omega), c2, if_neg (by omega), b2, if_neg (by omega), a2, if_neg (by omega)]
  refine ⟨pI (pI mf 65 0 (nI 48)) 63 3 (nI 1), ?_, fun q hq => ?_, fun i hi => ?_, by rw [rIn (by omega), rIs], rIs, fun x j q1 q2 q3 q4 => ?_, by rw [rI2, rI2, f3, e3, d3, c3, b3, a3, s3.1]⟩
  · unfold X10_init_129
    rw [s1, bv_s, a1, bv_s, bb, bv_s, c1, bv_s, d1, bv_s, e1, bv_s, f1, bv_s, if_pos (show inn (0 : Int32) 6 by decide), show (0 : Int32).toNatClampNeg = 0 from rfl, show (48 : Int32) = nI 48 from rfl, show (1 : Int32) = nI 1 from rfl]
  · rw [rIn (by omega), rIn (by omega), F _ _ (by omega)]; exact s2 q hq
  · rw [rIn (by omega), rIn (by omega), f2]
    by_cases q6 : 40 ≤ i
    · rw [if_pos (by omega), sp5 _ (by omega), show 40 + (i - 40) = i by omega]
    · rw [if_neg (by omega), e2]
      by_cases q5 : 32 ≤ i
      · rw [if_pos (by omega), sp4 _ (by omega), show 32 + (i - 32) = i by omega]
      · rw [if_neg (by omega), d2]
        by_cases q4 : 24 ≤ i
        · rw [if_pos (by omega), sp3 _ (by omega), show 24 + (i - 24) = i by omega]
        · rw [if_neg (by omega), c2]
          by_cases q3 : 16 ≤ i
          · rw [if_pos (by omega), sp2 _ (by omega), show 16 + (i - 16) = i by omega]
          · rw [if_neg (by omega), b2]
            by_cases q2 : 8 ≤ i
            · rw [if_pos (by omega), sp1 _ (by omega), show 8 + (i - 8) = i by omega]
            · rw [if_neg (by omega), a2, if_pos (by omega), sp0 _ (by omega), show 0 + (i - 0) = i by omega]
  · rw [rIn (by omega), rIn (by omega), F _ _ (by omega), s3.2 x j (by omega)]
