/-! TEXT: the reference's tokens -/
theorem rJ (m : Mem) (a k : Nat) (v : Int64) (b j : Nat) : (pJ m a k v).2 b j = if b = a ∧ j = k then v else m.2 b j := by
  simp only [pJ, va_up]
  by_cases h : b = a
  · subst h; simp [vp_updL]
  · simp [h]
theorem rJ1 (m : Mem) (a k : Nat) (v : Int64) : (pJ m a k v).1 = m.1 := rfl
theorem cmp0 (x y : Int64) : (lg_cmp x y = 0) = (x = y) := by
  apply propext
  unfold lg_cmp
  constructor
  · intro h
    split at h
    · cases h
    · split at h
      · assumption
      · cases h
  · intro h; subst h
    rw [if_neg (Int64.lt_irrefl), if_pos rfl]
/-- the bytes of a text -/
def Rt (m : Mem) (b : Nat → Nat) (S B : Nat) : Prop := m.1 63 20 = nI S ∧ m.1 63 19 = nI B ∧ B + S ≤ 960 ∧ ∀ i, i < S → m.1 64 (B + i) = nI (b i)
def bt (b : Nat → Nat) (S i : Nat) : Int32 := if i < S then nI (b i) else -1
theorem byteAt_r {b : Nat → Nat} {S B : Nat} {m : Mem} (hB : By b S) (hR : Rt m b S B) {i : Nat} (hi : i ≤ 300) : X10_byteAt (nI i) m = some (bt b S i, m) := by
  have hS := hB.hS
  obtain ⟨r1, r2, r3, r4⟩ := hR
  unfold X10_byteAt bt
  rw [r1, r2, nI_add]
  simp (disch := omega) only [n_le, n_inn, n_cl]
  by_cases h : i < S
  · rw [if_neg (by omega), if_pos (by omega), r4 i h, if_pos h]
  · rw [if_pos (by omega), if_neg h]
theorem in_bt {b : Nat → Nat} {S : Nat} (hB : By b S) (i lo hi : Nat) (h1 : lo < 1000) (h2 : hi < 256) (m : Mem) : X10_in (bt b S i).toInt64 (lN lo) (lN hi) m = some (if lo ≤ b i ∧ b i ≤ hi then 1 else 0, m) := by
  rw [in_s]
  have e1 : ((bt b S i).toInt64).toInt = (bt b S i).toInt := Int32.toInt_toInt64 _
  rw [e1, lN_toInt (by omega), lN_toInt (by omega)]
  congr 2
  unfold bt
  by_cases h : i < S
  · have := hB.lo i h
    rw [if_pos h, nI_toInt (by omega)]
    simp only [Int.ofNat_le]
  · have := hB.hi i (by omega)
    rw [if_neg h]
    have : (-1 : Int32).toInt = -1 := rfl
    rw [if_neg (by omega), if_neg (by omega)]
/-- what stays the same where the reference reads -/
def FrN (m m' : Mem) : Prop := (∀ x j, ¬ (x = 63 ∧ 21 ≤ j ∧ j ≤ 23) → m'.1 x j = m.1 x j) ∧ ∀ x j, ¬ (x = 63 ∧ j = 24) → m'.2 x j = m.2 x j
theorem FrN.rfl' (m : Mem) : FrN m m := ⟨fun _ _ _ => rfl, fun _ _ _ => rfl⟩
theorem FrN.tr {m m' m2 : Mem} (h : FrN m m') (g : FrN m' m2) : FrN m m2 := ⟨fun x j hx => (g.1 x j hx).trans (h.1 x j hx), fun x j hx => (g.2 x j hx).trans (h.2 x j hx)⟩
theorem FrN.pI {m : Mem} {j : Nat} (h : 21 ≤ j ∧ j ≤ 23) (v : Int32) : FrN m (pI m 63 j v) := ⟨fun x i hx => by rw [rI, if_neg (by omega)], fun _ _ _ => rfl⟩
theorem FrN.pJ {m : Mem} (v : Int64) : FrN m (pJ m 63 24 v) := ⟨fun x i hx => rfl, fun x i hx => by rw [rJ, if_neg hx]⟩
theorem Rt.fr {m m' : Mem} {b : Nat → Nat} {S B : Nat} (h : Rt m b S B) (g : FrN m m') : Rt m' b S B := ⟨by rw [g.1 _ _ (by omega)]; exact h.1, by rw [g.1 _ _ (by omega)]; exact h.2.1, h.2.2.1, fun i hi => by rw [g.1 _ _ (by omega)]; exact h.2.2.2 i hi⟩
theorem next_100r {b : Nat → Nat} {S B e : Nat} (hB : By b S) (he : e ≤ S) : ∀ (n p : Nat) (m : Mem), Rt m b S B → m.1 63 21 = nI p → p ≤ e → Sk isLt b p e → e - p < n → ∃ m', X10_next_100 n m = some m' ∧ m'.1 63 21 = nI e ∧ m'.1 63 22 = m.1 63 22 ∧ m'.1 63 23 = m.1 63 23 ∧ FrN m m' := by
  have hS := hB.hS
  intro n
  induction n with
  | zero => intro p m _ _ _ _ h; omega
  | succ n ih =>
    intro p m hR h1 hp hk hn
    rw [X10_next_100, h1, byteAt_r hB hR (by omega), bi_s]
    show ∃ m', bi (X10_in _ (lN 97) (lN 122) m) _ = _ ∧ _
    rw [in_bt hB p 97 122 (by decide) (by decide), bi_s]
    have hi := isLt_i (b p)
    rcases Nat.eq_or_lt_of_le hp with hq | hq
    · subst hq
      rw [if_neg (show ¬ (97 ≤ b p ∧ b p ≤ 122) from fun q => by rw [hk.no] at hi; simp at hi; omega), if_pos rfl]
      exact ⟨m, rfl, h1, rfl, rfl, FrN.rfl' m⟩
    · have hl := hi.mp (hk.al p (Nat.le_refl _) hq)
      rw [if_pos hl, if_neg (by decide), h1]
      obtain ⟨m', e1, e2, e3, e4, e5⟩ := ih (p + 1) (pI m 63 21 (nI (p + 1))) (hR.fr (FrN.pI (by omega) _)) (by rw [rI, if_pos ⟨rfl, rfl⟩]) (by omega) ⟨by omega, fun i h1 h2 => hk.al i (by omega) h2, hk.no⟩ (by omega)
      refine ⟨m', ?_, e2, by rw [e3, rI, if_neg (by omega)], by rw [e4, rI, if_neg (by omega)], (FrN.pI (by omega) _).tr e5⟩
      rw [nI_1]; exact e1
theorem next_160r {b : Nat → Nat} {S B a e : Nat} (hB : By b S) (he : e ≤ S) (ha : a ≤ e) (hk : Sk isDg b a e) : ∀ (n k : Nat) (m : Mem), Rt m b S B → m.1 63 21 = nI (a + k) → m.2 63 24 = lN (nmV b a (min k 4)) → a + k ≤ e → e - (a + k) < n → ∃ m', X10_next_160 n (nI k) m = some m' ∧ m'.1 63 21 = nI e ∧ m'.1 63 22 = nI (if e - a ≤ 4 then 2 else 4) ∧ m'.1 63 23 = m.1 63 23 ∧ m'.2 63 24 = lN (nmV b a (min (e - a) 4)) ∧ FrN m m' := by
  have hS := hB.hS
  intro n
  induction n with
  | zero => intro k m _ _ _ _ h; omega
  | succ n ih =>
    intro k m hR h1 h2 hp hn
    rw [X10_next_160, h1, byteAt_r hB hR (by omega), bi_s]
    show ∃ m', bi (X10_in _ (lN 48) (lN 57) m) _ = _ ∧ _
    rw [in_bt hB (a + k) 48 57 (by decide) (by decide), bi_s]
    have hi := isDg_i (b (a + k))
    rcases Nat.eq_or_lt_of_le hp with hq | hq
    · have hke : e - a = k := by omega
      rw [if_neg (show ¬ (48 ≤ b (a + k) ∧ b (a + k) ≤ 57) from fun q => by rw [hq, hk.no] at hi; simp at hi; rw [hq] at q; omega), if_pos rfl, hke]
      by_cases h4 : k ≤ 4
      · rw [if_pos (show nI k ≤ 4 from (nI_leI (b := 4) (by omega) (by omega)).mpr h4), if_pos h4]
        refine ⟨_, rfl, by rw [rI, if_neg (by omega), h1, hq], by rw [rI, if_pos ⟨rfl, rfl⟩]; rfl, by rw [rI, if_neg (by omega)], h2, FrN.pI (by omega) _⟩
      · rw [if_neg (show ¬ nI k ≤ 4 from fun q => h4 ((nI_leI (b := 4) (by omega) (by omega)).mp q)), if_neg h4]
        refine ⟨_, rfl, by rw [rI, if_neg (by omega), h1, hq], by rw [rI, if_pos ⟨rfl, rfl⟩]; rfl, by rw [rI, if_neg (by omega)], h2, FrN.pI (by omega) _⟩
    · have hl := hi.mp (hk.al (a + k) (by omega) hq)
      rw [if_pos hl, if_neg (by decide)]
      have step : ∀ s0 : Int64, s0 = lN (nmV b a (min (k + 1) 4)) → ∃ m', X10_next_216 (X10_next_160 n) (nI k) s0 m = some m' ∧ m'.1 63 21 = nI e ∧ m'.1 63 22 = nI (if e - a ≤ 4 then 2 else 4) ∧ m'.1 63 23 = m.1 63 23 ∧ m'.2 63 24 = lN (nmV b a (min (e - a) 4)) ∧ FrN m m' := by
        intro s0 hs0
        unfold X10_next_216
        rw [rJ1, h1, nI_1, nI_1]
        have fr : FrN m (pI (pJ m 63 24 s0) 63 21 (nI (a + k + 1))) := (FrN.pJ s0).tr (FrN.pI (by omega) _)
        obtain ⟨m', e1, e2, e3, e4, e5, e6⟩ := ih (k + 1) (pI (pJ m 63 24 s0) 63 21 (nI (a + k + 1))) (hR.fr fr) (by rw [rI, if_pos ⟨rfl, rfl⟩]; rfl) (by rw [rI2, rJ, if_pos ⟨rfl, rfl⟩]; exact hs0) (by omega) (by omega)
        exact ⟨m', e1, e2, e3, by rw [e4, rI, if_neg (by omega), rJ1], e5, fr.tr e6⟩
      by_cases h4 : 4 ≤ k
      · rw [if_pos (show (4 : Int32) ≤ nI k from (nI_leI (a := 4) (by omega) (by omega)).mpr h4)]
        refine step _ ?_
        rw [h2, Nat.min_eq_right h4, Nat.min_eq_right (by omega)]
      · rw [if_neg (show ¬ (4 : Int32) ≤ nI k from fun q => h4 ((nI_leI (a := 4) (by omega) (by omega)).mp q)), h1, byteAt_r hB hR (by omega), bi_s]
        refine step _ ?_
        unfold bt
        have hb := hB.lo (a + k) (by omega)
        rw [if_pos (show a + k < S by omega), h2, Nat.min_eq_left (by omega), Nat.min_eq_left (by omega), nI_l (by omega)]
        show lN 10 * _ + _ - lN 48 = _
        rw [lN_mul, lN_add, lN_sub (by omega), nmV]
        congr 1; omega
/-- what the reference knows of the token that begins at a -/
def TkR (m : Mem) (b : Nat → Nat) (a : Nat) : Prop :=
  m.1 63 23 = nI a ∧
  m.1 63 22 = nI (if 256 ≤ b a then 0 else if isLt (b a) then 1 else if isDg (b a) then (if nmE b a - a ≤ 4 then 2 else 4) else if isSg (b a) then 3 else 4) ∧
  (256 ≤ b a ∨ isLt (b a) = true ∨ isDg (b a) = true ∨ isSg (b a) = true → m.1 63 21 = nI (nAt b a)) ∧
  (b a < 256 → isLt (b a) = false → isDg (b a) = true → nmE b a - a ≤ 4 → m.2 63 24 = lN (nmV b a (nmE b a - a))) ∧
  (b a < 256 → isLt (b a) = false → isDg (b a) = false → isSg (b a) = true → m.2 63 24 = lN (b a))
theorem next_0r {b : Nat → Nat} {S B e : Nat} (hB : By b S) (he : e ≤ S) : ∀ (n p : Nat) (m : Mem), Rt m b S B → m.1 63 21 = nI p → p ≤ e → Sk isWs b p e → e - p < n → ∃ m', X10_next_0 n m = some m' ∧ TkR m' b e ∧ FrN m m' := by
  have hS := hB.hS
  intro n
  induction n with
  | zero => intro p m _ _ _ _ h; omega
  | succ n ih =>
    intro p m hR h1 hp hk hn
    have hbl := by_le hB p
    rw [X10_next_0, h1, byteAt_r hB hR (by omega), bi_s]
    have hi := isWs_i (b p)
    have hbt : ∀ c : Nat, c < 256 → ((bt b S p = nI c) = (b p = c)) := by
      intro c hc
      unfold bt
      by_cases h : p < S
      · rw [if_pos h, n_eq (by omega) (by omega)]
      · have := hB.hi p (by omega)
        rw [if_neg h]
        apply propext
        constructor
        · intro q
          have := congrArg Int32.toInt q
          rw [nI_toInt (by omega)] at this
          have h3 : (-1 : Int32).toInt = -1 := rfl
          omega
        · intro q; omega
    have c32 : (bt b S p = 32) = (b p = 32) := hbt 32 (by decide)
    have c10 : (bt b S p = 10) = (b p = 10) := hbt 10 (by decide)
    rcases Nat.eq_or_lt_of_le hp with hq | hq
    · subst hq
      have hw : ¬ (b p = 32 ∨ b p = 10) := fun q => by rw [hk.no] at hi; simp at hi; omega
      rw [if_neg (show ¬ bt b S p = 32 by rw [c32]; omega), h1, byteAt_r hB hR (by omega), bi_s, if_neg (show ¬ bt b S p = 10 by rw [c10]; omega)]
      have F1 : FrN m (pI m 63 23 (nI p)) := FrN.pI (by omega) _
      rw [rI, if_neg (by omega), h1, byteAt_r hB (hR.fr F1) (by omega), bi_s]
      rcases Nat.lt_or_ge p S with hs | hs
      · have hb := hB.lo p hs
        have hbt2 : bt b S p = nI (b p) := by unfold bt; rw [if_pos hs]
        rw [if_pos (show 0 ≤ bt b S p by rw [hbt2]; exact nI_pos' (by omega))]
        show ∃ m', bi (X10_in _ (lN 97) (lN 122) _) _ = _ ∧ _
        rw [in_bt hB p 97 122 (by decide) (by decide), bi_s]
        by_cases hL : isLt (b p) = true
        · have hl := (isLt_i _).mp hL
          rw [if_pos hl, if_neg (by decide)]
          obtain ⟨wk, wS⟩ := wdE_s hB he
          have F2 : FrN m (pI (pI (pI m 63 23 (nI p)) 63 22 4) 63 22 1) := (F1.tr (FrN.pI (by omega) _)).tr (FrN.pI (by omega) _)
          obtain ⟨m', e1, e2, e3, e4, e5⟩ := next_100r hB wS 10000 p _ (hR.fr F2) (by rw [rI, rI, rI, if_neg (by omega), if_neg (by omega), if_neg (by omega), h1]) wk.le wk (by omega)
          refine ⟨m', e1, ⟨by rw [e4, rI, rI, rI, if_neg (by omega), if_neg (by omega), if_pos ⟨rfl, rfl⟩], ?_, ?_, ?_, ?_⟩, F2.tr e5⟩
          · rw [e3, rI, if_pos ⟨rfl, rfl⟩, if_neg (by omega), if_pos hL]; rfl
          · intro _; rw [e2]; unfold nAt; rw [if_neg (by omega), if_pos hL]
          · intro _ h; rw [hL] at h; cases h
          · intro _ h; rw [hL] at h; cases h
        · have hl : ¬ (97 ≤ b p ∧ b p ≤ 122) := fun q => hL ((isLt_i _).mpr q)
          rw [if_neg hl, if_pos rfl]
          show ∃ m', bi (X10_in _ (lN 48) (lN 57) _) _ = _ ∧ _
          rw [in_bt hB p 48 57 (by decide) (by decide), bi_s]
          by_cases hD : isDg (b p) = true
          · have hd := (isDg_i _).mp hD
            rw [if_pos hd, if_neg (by decide)]
            obtain ⟨wk, wS⟩ := nmE_s hB he
            have F2 : FrN m (pJ (pI (pI (pI m 63 23 (nI p)) 63 22 4) 63 22 2) 63 24 0) := ((F1.tr (FrN.pI (by omega) _)).tr (FrN.pI (by omega) _)).tr (FrN.pJ _)
            obtain ⟨m', e1, e2, e3, e4, e5, e6⟩ := next_160r hB wS wk.le wk 10000 0 _ (hR.fr F2) (by rw [rJ1, rI, rI, rI, if_neg (by omega), if_neg (by omega), if_neg (by omega), h1]; rfl) (by rw [rJ, if_pos ⟨rfl, rfl⟩]; rfl) wk.le (by omega)
            refine ⟨m', e1, ⟨by rw [e4, rJ1, rI, rI, rI, if_neg (by omega), if_neg (by omega), if_pos ⟨rfl, rfl⟩], ?_, ?_, ?_, ?_⟩, F2.tr e6⟩
            · rw [e3, if_neg (show ¬ 256 ≤ b p by omega), if_neg hL, if_pos hD]
            · intro _; rw [e2]; unfold nAt; rw [if_neg (by omega), if_neg hL, if_pos hD]
            · intro _ _ _ h; rw [e5, Nat.min_eq_left h]
            · intro _ _ h; rw [hD] at h; cases h
          · have hd : ¬ (48 ≤ b p ∧ b p ≤ 57) := fun q => hD ((isDg_i _).mpr q)
            have hL2 : isLt (b p) = false := by simpa using hL
            have hD2 : isDg (b p) = false := by simpa using hD
            rw [if_neg hd, if_pos rfl]
            have c40 : (bt b S p = 40) = (b p = 40) := hbt 40 (by decide)
            have c41 : (bt b S p = 41) = (b p = 41) := hbt 41 (by decide)
            have c59 : (bt b S p = 59) = (b p = 59) := hbt 59 (by decide)
            have c43 : (bt b S p = 43) = (b p = 43) := hbt 43 (by decide)
            have c45 : (bt b S p = 45) = (b p = 45) := hbt 45 (by decide)
            have c42 : (bt b S p = 42) = (b p = 42) := hbt 42 (by decide)
            have c60 : (bt b S p = 60) = (b p = 60) := hbt 60 (by decide)
            have c61 : (bt b S p = 61) = (b p = 61) := hbt 61 (by decide)
            simp only [c40, c41, c59, c43, c45, c42, c60, c61]
            have hg := isSg_i (b p)
            have F2 : FrN m (pI (pI m 63 23 (nI p)) 63 22 4) := F1.tr (FrN.pI (by omega) _)
            have good : isSg (b p) = true → ∃ m', X10_next_300 (bt b S p) (pI (pI m 63 23 (nI p)) 63 22 4) = some m' ∧ TkR m' b p ∧ FrN m m' := by
              intro hG
              unfold X10_next_300
              refine ⟨_, rfl, ⟨?_, ?_, ?_, ?_, ?_⟩, ((F2.tr (FrN.pI (by omega) _)).tr (FrN.pJ _)).tr (FrN.pI (by omega) _)⟩
              · rw [rI, if_neg (by omega), rJ1, rI, rI, rI, if_neg (by omega), if_neg (by omega), if_pos ⟨rfl, rfl⟩]
              · rw [rI, if_neg (by omega), rJ1, rI, if_pos ⟨rfl, rfl⟩, if_neg (show ¬ 256 ≤ b p by omega), if_neg hL, if_neg hD, if_pos hG]; rfl
              · intro _; rw [rI, if_pos ⟨rfl, rfl⟩, rJ1, rI, rI, rI, if_neg (by omega), if_neg (by omega), if_neg (by omega), h1]
                unfold nAt; rw [if_neg (show ¬ 256 ≤ b p by omega), if_neg hL, if_neg hD]; exact nI_1 p
              · intro _ _ h; rw [hD2] at h; cases h
              · intro _ _ _ _; rw [rI2, rJ, if_pos ⟨rfl, rfl⟩, hbt2, nI_l (by omega)]
            by_cases g40 : b p = 40
            · rw [if_pos g40]; exact good (by rw [g40]; rfl)
            rw [if_neg g40]
            by_cases g41 : b p = 41
            · rw [if_pos g41]; exact good (by rw [g41]; rfl)
            rw [if_neg g41]
            by_cases g59 : b p = 59
            · rw [if_pos g59]; exact good (by rw [g59]; rfl)
            rw [if_neg g59]
            by_cases g43 : b p = 43
            · rw [if_pos g43]; exact good (by rw [g43]; rfl)
            rw [if_neg g43]
            by_cases g45 : b p = 45
            · rw [if_pos g45]; exact good (by rw [g45]; rfl)
            rw [if_neg g45]
            by_cases g42 : b p = 42
            · rw [if_pos g42]; exact good (by rw [g42]; rfl)
            rw [if_neg g42]
            by_cases g60 : b p = 60
            · rw [if_pos g60]; exact good (by rw [g60]; rfl)
            rw [if_neg g60]
            by_cases g61 : b p = 61
            · rw [if_pos g61]; exact good (by rw [g61]; rfl)
            rw [if_neg g61]
            have hG : isSg (b p) = false := by
              rcases h : isSg (b p) with _ | _
              · rfl
              · have := hg.mp h; omega
            refine ⟨_, rfl, ⟨?_, ?_, ?_, ?_, ?_⟩, F2⟩
            · rw [rI, rI, if_neg (by omega), if_pos ⟨rfl, rfl⟩]
            · rw [rI, if_pos ⟨rfl, rfl⟩, if_neg (show ¬ 256 ≤ b p by omega), if_neg hL, if_neg hD, if_neg (by rw [hG]; decide)]; rfl
            · intro h; rcases h with h | h | h | h
              · omega
              · exact absurd h hL
              · exact absurd h hD
              · rw [hG] at h; cases h
            · intro _ _ h; rw [hD2] at h; cases h
            · intro _ _ _ h; rw [hG] at h; cases h
      · have hb := hB.hi p hs
        have hbt2 : bt b S p = -1 := by unfold bt; rw [if_neg (by omega)]
        rw [if_neg (show ¬ 0 ≤ bt b S p by rw [hbt2]; decide)]
        have hpS : p = S := by omega
        refine ⟨_, rfl, ⟨?_, ?_, ?_, ?_, ?_⟩, ((F1.tr (FrN.pI (by omega) _)).tr (FrN.pI (by omega) _)).tr (FrN.pI (by omega) _)⟩
        · rw [rI, if_pos ⟨rfl, rfl⟩, rI, rI, rI, if_neg (by omega), if_neg (by omega), if_neg (by omega), hR.1, hpS]
        · rw [if_pos (show 256 ≤ b p by omega)]; simp [rI]; rfl
        · intro _; unfold nAt; rw [if_pos (show 256 ≤ b p by omega)]; simp [rI, h1]
        · intro h; omega
        · intro h; omega
    · have hl := hi.mp (hk.al p (Nat.le_refl _) hq)
      obtain ⟨m', e1, e2, e3⟩ := ih (p + 1) (pI m 63 21 (nI (p + 1))) (hR.fr (FrN.pI (by omega) _)) (by rw [rI, if_pos ⟨rfl, rfl⟩]) (by omega) ⟨by omega, fun i h1 h2 => hk.al i (by omega) h2, hk.no⟩ (by omega)
      refine ⟨m', ?_, e2, (FrN.pI (by omega) _).tr e3⟩
      have e0 : X10_next_26 (X10_next_0 n) m = some m' := by unfold X10_next_26; rw [h1, nI_1]; exact e1
      by_cases h32 : b p = 32
      · rw [if_pos (show bt b S p = 32 by rw [c32]; exact h32)]; exact e0
      · rw [if_neg (show ¬ bt b S p = 32 by rw [c32]; exact h32), h1, byteAt_r hB hR (by omega), bi_s, if_pos (show bt b S p = 10 by rw [c10]; omega)]; exact e0
