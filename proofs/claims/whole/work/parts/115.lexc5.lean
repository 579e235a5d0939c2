theorem Tp_pI {m : Mem} {b : Nat → Nat} {S : Nat} (hT : Tp m b S) {j : Nat} (hj : j ≠ 1) (v : Int32) : Tp (pI m 30 j v) b S := ⟨by rw [rI, if_neg (by omega)]; exact hT.1, fun i hi => by rw [rI, if_neg (by omega)]; exact hT.2 i hi⟩
theorem Tp_of {m m' : Mem} {b : Nat → Nat} {S : Nat} (hT : Tp m b S) (h1 : m'.1 30 1 = m.1 30 1) (h2 : ∀ j, m'.1 31 j = m.1 31 j) : Tp m' b S := ⟨by rw [h1]; exact hT.1, fun i hi => by rw [h2]; exact hT.2 i hi⟩
theorem adv_c {b : Nat → Nat} {S : Nat} (hB : By b S) {p : Nat} (hp : p ≤ S) {m : Mem} (hT : Tp m b S) (h2 : m.1 30 2 = -1) (h6 : m.1 30 6 = nI p) : ∃ m', X3_advance m = some m' ∧ m'.2 = m.2 ∧ m'.1 30 3 = nI (tK b p) ∧ m'.1 30 4 = nI (tkA b p) ∧ (tK b p = 2 ∨ tK b p = 3 → m'.1 30 5 = nI (tV b p)) ∧ (tK b p ≠ 1 → m'.1 30 6 = nI (tN b p)) ∧ ∀ x j, ¬ (x = 30 ∧ 3 ≤ j ∧ j ≤ 6) → m'.1 x j = m.1 x j := by
  have hS := hB.hS
  obtain ⟨sk, ha⟩ := tkA_s hB hp
  unfold X3_advance
  rw [if_pos h2]
  obtain ⟨m1, e1, f1, g1⟩ := advance_9c hB ha 10000 p m hT h6 sk.le sk (by omega)
  rw [e1]
  unfold tK tV tN
  generalize hA : tkA b p = a at *
  have T1 : Tp m1 b S := Tp_of hT (by rw [g1, if_neg (by omega)]) (fun j => by rw [g1, if_neg (by omega)])
  have k6 : m1.1 30 6 = nI a := by rw [g1, if_pos ⟨rfl, rfl⟩]
  unfold X3_advance_61
  have q6 : ∀ v, (pI m1 30 4 v).1 30 6 = nI a := fun v => by rw [rI, if_neg (by omega)]; exact k6
  have q1 : ∀ v, (pI m1 30 4 v).1 30 1 = nI S := fun v => by rw [rI, if_neg (by omega)]; exact T1.1
  rw [k6, q6, q1]
  simp (disch := omega) only [n_lt, n_inn, n_cl]
  rcases Nat.lt_or_ge a S with hs | hs; rotate_left
  · have hb := hB.hi a hs
    rw [if_neg (by omega)]
    refine ⟨_, rfl, f1, ?_, ?_, ?_, ?_, fun x j hx => ?_⟩
    · rw [rI, if_pos ⟨rfl, rfl⟩]; simp [kAt, hb]; rfl
    · rw [rI, rI, if_neg (by omega), if_pos ⟨rfl, rfl⟩]
    · simp [kAt, hb]
    · intro _; rw [rI, rI, if_neg (by omega), if_neg (by omega), k6]; simp [nAt, hb]
    · rw [rI, rI, if_neg (by omega), if_neg (by omega), g1, if_neg (by omega)]
  · have hb := hB.lo a hs
    have q31 : ∀ v, (pI m1 30 4 v).1 31 a = nI (b a) := fun v => by rw [rI, if_neg (by omega)]; exact T1.2 a hs
    rw [if_pos hs, if_pos (by omega), q31]
    simp (disch := omega) only [n_lt, lit_n, nI_add]
    have T2 : Tp (pI (pI m1 30 4 (nI a)) 30 6 (nI (a + 1))) b S := Tp_pI (Tp_pI T1 (by omega) _) (by omega) _
    have w4 : (pI (pI m1 30 4 (nI a)) 30 6 (nI (a + 1))).1 30 4 = nI a := by rw [rI, rI, if_neg (by omega), if_pos ⟨rfl, rfl⟩]
    have w6 : (pI (pI m1 30 4 (nI a)) 30 6 (nI (a + 1))).1 30 6 = nI (a + 1) := by rw [rI, if_pos ⟨rfl, rfl⟩]
    have wo : ∀ x j, ¬ (x = 30 ∧ 3 ≤ j ∧ j ≤ 6) → (pI (pI m1 30 4 (nI a)) 30 6 (nI (a + 1))).1 x j = m.1 x j := fun x j hx => by rw [rI, rI, if_neg (by omega), if_neg (by omega), g1, if_neg (by omega)]
    have w2 : (pI (pI m1 30 4 (nI a)) 30 6 (nI (a + 1))).2 = m.2 := f1
    generalize (pI (pI m1 30 4 (nI a)) 30 6 (nI (a + 1))) = m2 at *
    have hb0 : ¬ 256 ≤ b a := by omega
    by_cases hL : isLt (b a) = true
    · have hl := (isLt_i _).mp hL
      rw [if_neg (by omega), if_neg (by omega)]
      obtain ⟨wk, wS⟩ := wdE_s hB ha
      have wg := wdE_gt hB ha hL
      obtain ⟨m3, e3, f3, g3⟩ := takeWord_0c hB wS 10000 (a + 1) m2 T2 w6 (by omega) ⟨by omega, fun i h1 h2 => wk.al i (by omega) h2, wk.no⟩ (by omega)
      obtain ⟨m4, e4, f4, k4, v4, g4⟩ := takeWord_52c (m := m3) (a := a) hB (Tp_of T2 (by rw [g3, if_neg (by omega)]) (fun j => by rw [g3, if_neg (by omega)])) (by rw [g3, if_neg (by omega)]; exact w4) (by rw [g3, if_pos ⟨rfl, rfl⟩]) wS ha
      unfold X3_takeWord
      rw [e3, e4, bv_s]
      refine ⟨m4, rfl, by rw [f4, f3, w2], ?_, ?_, ?_, ?_, fun x j hx => ?_⟩
      · rw [k4]; simp only [kAt, hb0, hL, if_true, if_false, Bool.false_eq_true]
      · rw [g4 30 4 (by omega), g3, if_neg (by omega), w4]
      · simp only [kAt, vAt, hb0, hL, if_true, if_false, Bool.false_eq_true]
        intro hk
        have : 6 ≤ wno b (wdE b a) a ∧ wno b (wdE b a) a < 12 := by
          generalize wno b (wdE b a) a = q at hk
          split at hk
          · omega
          · split at hk <;> omega
        exact v4 this.1 this.2
      · intro _; rw [g4 30 6 (by omega), g3, if_pos ⟨rfl, rfl⟩]; simp only [nAt, hb0, hL, if_true, if_false, Bool.false_eq_true]
      · rw [g4 x j (by omega), g3, if_neg (by omega), wo x j hx]
    · have hL2 : isLt (b a) = false := by simpa using hL
      have hl : ¬ (97 ≤ b a ∧ b a ≤ 122) := fun q => hL ((isLt_i _).mpr q)
      have cut : (if b a < 97 then X3_advance_125 (nI (b a)) m2 else if 122 < b a then X3_advance_125 (nI (b a)) m2 else bv (X3_takeWord m2) fun m119 => some m119) = X3_advance_125 (nI (b a)) m2 := by
        by_cases h : b a < 97
        · rw [if_pos h]
        · rw [if_neg h, if_pos (by omega)]
      rw [cut]
      unfold X3_advance_125
      simp (disch := omega) only [n_lt, lit_n]
      by_cases hD : isDg (b a) = true
      · have hd := (isDg_i _).mp hD
        rw [if_neg (by omega), if_neg (by omega)]
        obtain ⟨wk, wS⟩ := nmE_s hB ha
        have wg := nmE_gt hB ha hD
        obtain ⟨m3, e3, f3, g3⟩ := takeNumber_0c hB wS 10000 (a + 1) m2 T2 w6 (by omega) ⟨by omega, fun i h1 h2 => wk.al i (by omega) h2, wk.no⟩ (by omega)
        obtain ⟨m4, e4, f4, k4, v4, g4⟩ := takeNumber_52c (m := m3) (a := a) hB (Tp_of T2 (by rw [g3, if_neg (by omega)]) (fun j => by rw [g3, if_neg (by omega)])) (by rw [g3, if_neg (by omega)]; exact w4) (by rw [g3, if_pos ⟨rfl, rfl⟩]) wS wk.le (fun i h1 h2 => wk.al i h1 h2)
        unfold X3_takeNumber
        rw [e3, e4, bv_s]
        refine ⟨m4, rfl, by rw [f4, f3, w2], ?_, ?_, ?_, ?_, fun x j hx => ?_⟩
        · rw [k4]; simp only [kAt, hb0, hL, hD, if_true, if_false, Bool.false_eq_true]
        · rw [g4 30 4 (by omega), g3, if_neg (by omega), w4]
        · simp only [kAt, vAt, hb0, hL, hD, if_true, if_false, Bool.false_eq_true]
          intro hk
          by_cases h4 : nmE b a - a ≤ 4
          · exact v4 h4
          · rw [if_neg h4] at hk; omega
        · intro _; rw [g4 30 6 (by omega), g3, if_pos ⟨rfl, rfl⟩]; simp only [nAt, hb0, hL, hD, if_true, if_false, Bool.false_eq_true]
        · rw [g4 x j (by omega), g3, if_neg (by omega), wo x j hx]
      · have hd : ¬ (48 ≤ b a ∧ b a ≤ 57) := fun q => hD ((isDg_i _).mpr q)
        have cut2 : (if b a < 48 then X3_advance_144 (nI (b a)) m2 else if 57 < b a then X3_advance_144 (nI (b a)) m2 else bv (X3_takeNumber m2) fun m138 => some m138) = X3_advance_144 (nI (b a)) m2 := by
          by_cases h : b a < 48
          · rw [if_pos h]
          · rw [if_neg h, if_pos (by omega)]
        rw [cut2]
        unfold X3_advance_144
        rw [indexOf_e hb, bi_s]
        have hsg := sgI_n (b a) hb
        by_cases hG : isSg (b a) = true
        · rw [if_neg (fun q => by rw [hsg.mp q] at hG; cases hG)]
          refine ⟨_, rfl, w2, ?_, ?_, ?_, ?_, fun x j hx => ?_⟩
          · rw [rI, if_pos ⟨rfl, rfl⟩]; simp only [kAt, hb0, hL, hD, hG, if_true, if_false, Bool.false_eq_true]
          · rw [rI, if_neg (by omega), w4]
          · simp only [kAt, hb0, hL, hD, hG, if_true, if_false, Bool.false_eq_true]
            have := (isSg_i _).mp hG
            omega
          · intro _; rw [rI, if_neg (by omega), w6]; simp only [nAt, hb0, hL, hD, if_false, Bool.false_eq_true]
          · rw [rI, if_neg (by omega), wo x j hx]
        · rw [if_pos (hsg.mpr (by simpa using hG))]
          refine ⟨_, rfl, w2, ?_, ?_, ?_, ?_, fun x j hx => ?_⟩
          · rw [rI, if_pos ⟨rfl, rfl⟩]; simp only [kAt, hb0, hL, hD, hG, if_false, Bool.false_eq_true]; rfl
          · rw [rI, if_neg (by omega), w4]
          · simp only [kAt, hb0, hL, hD, hG, if_false, Bool.false_eq_true]
            omega
          · simp only [kAt, hb0, hL, hD, hG, if_false, Bool.false_eq_true]
            omega
          · rw [rI, if_neg (by omega), wo x j hx]
