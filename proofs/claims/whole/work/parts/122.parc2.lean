/-- what a reading from m at depth d with l numbers of code has brought -/
def PC (m m' : Mem) (b : Nat → Nat) (S d l : Nat) (R : Nat ⊕ (List Int32 × Nat)) : Prop := FrC m m' ∧ match R with
  | .inl f => CB m' f
  | .inr (c, q) => CS m' b S q d (l + c.length) ∧ (∀ i, i < l → m'.1 32 i = m.1 32 i) ∧ ∀ i, i < c.length → m'.1 32 (l + i) = c.getD i 0
theorem PC_l {m m' : Mem} {b : Nat → Nat} {S d l f : Nat} (h1 : FrC m m') (h2 : CB m' f) : PC m m' b S d l (.inl f) := ⟨h1, h2⟩
theorem PC_r {m m' : Mem} {b : Nat → Nat} {S d l q : Nat} {c : List Int32} (h1 : FrC m m') (h2 : CS m' b S q d (l + c.length)) (h3 : ∀ i, i < l → m'.1 32 i = m.1 32 i) (h4 : ∀ i, i < c.length → m'.1 32 (l + i) = c.getD i 0) : PC m m' b S d l (.inr (c, q)) := ⟨h1, h2, h3, h4⟩
theorem getD_app {c : List Int32} {x : Int32} {i : Nat} (h : i < c.length + 1) : (c ++ [x]).getD i 0 = if i < c.length then c.getD i 0 else x := by
  by_cases hi : i < c.length
  · rw [if_pos hi]
    simp [List.getD_eq_getElem?_getD, List.getElem?_append_left hi]
  · have : i = c.length := by omega
    subst this
    rw [if_neg hi]
    simp [List.getD_eq_getElem?_getD]
theorem getD_app2 {c c2 : List Int32} {i : Nat} : (c ++ c2).getD i 0 = if i < c.length then c.getD i 0 else c2.getD (i - c.length) 0 := by
  by_cases hi : i < c.length
  · rw [if_pos hi]
    simp [List.getD_eq_getElem?_getD, List.getElem?_append_left hi]
  · rw [if_neg hi]
    simp [List.getD_eq_getElem?_getD, List.getElem?_append_right (by omega : c.length ≤ i)]
/-- a code's last number is laid behind it -/
theorem PC_emit {m m1 : Mem} {b : Nat → Nat} {S d d' l q : Nat} {c : List Int32} {x : Int32} (hF : FrC m m1) (hC : CS m1 b S q d' (l + c.length)) (h3 : ∀ i, i < l → m1.1 32 i = m.1 32 i) (h4 : ∀ i, i < c.length → m1.1 32 (l + i) = c.getD i 0) (hl : l + c.length < 160) {v : Int32} (hv : v = nI d) : ∃ m', X3_emit x (pI m1 30 7 v) = some m' ∧ PC m m' b S d l (.inr (c ++ [x], q)) := by
  obtain ⟨m', e1, e2, e3, e4, e5⟩ := CS_emit (CS_d hC hv) hl x
  refine ⟨m', e1, PC_r ((hF.tr (FrC.p30 (by decide) _)).tr e3) ?_ (fun i hi => ?_) (fun i hi => ?_)⟩
  · rw [List.length_append]; exact e2
  · rw [e4 i (by omega), rI, if_neg (by omega), h3 i hi]
  · simp only [List.length_append, List.length_cons, List.length_nil] at hi
    rw [getD_app (by omega)]
    by_cases h : i < c.length
    · rw [if_pos h, e4 _ (by omega), rI, if_neg (by omega), h4 i h]
    · rw [if_neg h, show l + i = l + c.length by omega, e5]
section
variable {b : Nat → Nat} {S : Nat}
/-- the three things that are shown together -/
def QA (b : Nat → Nat) (S n : Nat) : Prop := ∀ (d p l f : Nat) (m : Mem) (x : Int32), p ≤ S → d ≤ 5 → 10 * (S + 1 - p) < n → CS m b S p d l → l ≤ p → 36 - 7 * d ≤ f → ∃ m', X3_po f 1 x m = some m' ∧ PC m m' b S d l (ps b n 5 d [] p)
def QB (b : Nat → Nat) (S n : Nat) : Prop := ∀ (L d p l f : Nat) (m : Mem), L < 5 → p ≤ S → d ≤ 5 → 10 * (S + 1 - p) + (5 - L) < n → CS m b S p d l → l ≤ p → 42 - 7 * d - L ≤ f → ∃ m', X3_po f 0 (nI L) m = some m' ∧ PC m m' b S d l (ps b n L d [] p)
def QC (b : Nat → Nat) (S n : Nat) : Prop := ∀ (L d p l f k v3 : Nat) (acc : List Int32) (m : Mem), L < 5 → p ≤ S → d ≤ 5 → 10 * (S + 1 - p) < n → CS m b S p d (l + acc.length) → l + acc.length ≤ p → 41 - 7 * d - L ≤ f → v3 ≤ p → 200 < k + v3 → (L = 2 → v3 = 0) → (∀ i, i < acc.length → m.1 32 (l + i) = acc.getD i 0) → ∃ m', X3_phraseB_80 (X3_po f) k (nI L) (if L = 2 then 1 else 160) (nI v3) m = some m' ∧ PC m m' b S d l (ps b n (L + 10) d acc p)
theorem QAs (hB : By b S) {n : Nat} (hA : QA b S n) (hB' : QB b S n) : QA b S (n + 1) := by
  have hS := hB.hS
  intro d p l f m x hp hd hn hC hl hf
  obtain ⟨f, rfl⟩ : ∃ f', f = f' + 1 := ⟨f - 1, by omega⟩
  have hN := tN_le hB hp
  have hG := tN_gt hB hp
  have hk := tK_lt b p
  have c3 := hC.2.2.1
  rw [X3_po, if_neg (by decide), ps, if_pos rfl]
  unfold X3_oneB
  rw [c3]
  have z2 : (nI (tK b p) = 2) = (tK b p = 2) := n_eq (b := 2) (by omega) (by decide)
  have z3 : (nI (tK b p) = 3) = (tK b p = 3) := n_eq (b := 3) (by omega) (by decide)
  have z40 : (nI (tK b p) = 40) = (tK b p = 40) := n_eq (b := 40) (by omega) (by decide)
  have z45 : (nI (tK b p) = 45) = (tK b p = 45) := n_eq (b := 45) (by omega) (by decide)
  by_cases k2 : tK b p = 2
  · rw [if_pos k2, if_pos (z2.mpr k2)]
    have := hG (by omega)
    obtain ⟨m1, e1, e2, e3, e4, e5⟩ := CS_emit hC (by omega) (m.1 30 5)
    rw [e1, bv_s]
    obtain ⟨m2, g1, g2, g3, g4⟩ := CS_adv hB hp e2 (by omega)
    rw [g1, bv_s]
    refine ⟨m2, rfl, PC_r (e3.tr g3) g2 (fun i hi => by rw [g4, e4 i (by omega)]) (fun i hi => ?_)⟩
    simp only [List.length_cons, List.length_nil] at hi
    have : i = 0 := by omega
    subst this
    rw [Nat.add_zero, g4, e5, hC.2.2.2.2.1 (Or.inl k2)]; rfl
  rw [if_neg k2, if_neg (fun h => k2 (z2.mp h))]
  by_cases k3 : tK b p = 3
  · rw [if_pos k3, if_pos (z3.mpr k3)]
    have := hG (by omega)
    obtain ⟨m1, e1, e2, e3, e4, e5⟩ := CS_emit hC (by omega) (-1 - m.1 30 5)
    rw [e1, bv_s]
    obtain ⟨m2, g1, g2, g3, g4⟩ := CS_adv hB hp e2 (by omega)
    rw [g1, bv_s]
    refine ⟨m2, rfl, PC_r (e3.tr g3) g2 (fun i hi => by rw [g4, e4 i (by omega)]) (fun i hi => ?_)⟩
    simp only [List.length_cons, List.length_nil] at hi
    have : i = 0 := by omega
    subst this
    rw [Nat.add_zero, g4, e5, hC.2.2.2.2.1 (Or.inr k3)]; rfl
  rw [if_neg k3, if_neg (fun h => k3 (z3.mp h))]
  have c7 := hC.2.2.2.2.2.2.1
  have opn : d < 5 → X3_opens m = some (1, pI m 30 7 (nI (d + 1))) := by
    intro h
    unfold X3_opens
    rw [c7, if_pos (show nI d < 5 from nI_lt (b := 5) h (by decide)), nI_1]
  have nop : ¬ d < 5 → ∃ m', X3_opens m = some (0, m') ∧ CB m' (tkA b p) ∧ FrC m m' := by
    intro h
    unfold X3_opens
    obtain ⟨m', e1, e2, e3⟩ := CS_fail hB hp hC (by omega)
    rw [c7, if_neg (show ¬ nI d < 5 from nI_nlt (b := 5) (by omega) (by omega)), e1, bv_s]
    exact ⟨m', rfl, e2, e3⟩
  by_cases k40 : tK b p = 40
  · rw [if_pos k40, if_pos (z40.mpr k40)]
    have hg := hG (by omega)
    by_cases hd5 : d < 5
    · rw [if_pos hd5, opn hd5, bi_s, if_neg (by decide)]
      obtain ⟨m1, e1, e2, e3, e4⟩ := CS_adv hB hp (CS_d hC (v := nI (d + 1)) rfl) (by omega)
      rw [e1, bv_s]
      obtain ⟨m2, g1, g2⟩ := hB' 0 (d + 1) (tN b p) l f m1 (by decide) hN.2 (by omega) (by omega) e2 (by omega) (by omega)
      have g1' : X3_po f 0 0 m1 = some m2 := g1
      rw [g1', bv_s]
      have fr2 : FrC m m2 := ((FrC.p30 (m := m) (j := 7) (by decide) (nI (d + 1))).tr e3).tr g2.1
      rcases hr : ps b n 0 (d + 1) [] (tN b p) with e | ⟨c2, q2⟩
      · rw [bR_l]
        have g3 : CB m2 e := by rw [hr] at g2; exact g2.2
        obtain ⟨m3, i1, i2, i3⟩ := CB_expect g3 (c := 41) (by decide)
        rw [i1, bv_s]
        exact ⟨_, rfl, PC_l ((fr2.tr i3).tr (FrC.p30 (by decide) _)) (CB_d i2 _)⟩
      · rw [bR_r]
        rw [hr] at g2
        obtain ⟨g3, g4, g5⟩ := g2.2
        obtain ⟨p1, p2, p3, p4⟩ := ps_pr hB _ _ _ _ _ _ _ hN.2 hr
        have p5 := p2 (by decide)
        unfold X3_expect
        rw [g3.2.2.1]
        have hk2 := tK_lt b q2
        have hq : (nI (tK b q2) = 41) = (tK b q2 = 41) := n_eq (b := 41) (by omega) (by decide)
        by_cases k41 : tK b q2 = 41
        · rw [if_pos k41, if_pos (by rw [hq]; exact k41)]
          obtain ⟨m3, i1, i2, i3, i4⟩ := CS_adv hB p1 g3 (by omega)
          rw [i1, bv_s, bv_s]
          refine ⟨_, rfl, PC_r ((fr2.tr i3).tr (FrC.p30 (by decide) _)) (CS_d i2 ?_) (fun i hi => ?_) (fun i hi => ?_)⟩
          · rw [i2.2.2.2.2.2.2.1]; exact nI_pred d
          · rw [rI, if_neg (by omega), i4, g4 i hi, e4, rI, if_neg (by omega)]
          · rw [rI, if_neg (by omega), i4, g5 i hi]
        · rw [if_neg k41, if_neg (by rw [hq]; exact k41)]
          obtain ⟨m3, i1, i2, i3⟩ := CS_fail hB p1 g3 (by omega)
          rw [i1, bv_s, bv_s]
          exact ⟨_, rfl, PC_l ((fr2.tr i3).tr (FrC.p30 (by decide) _)) (CB_d i2 _)⟩
    · rw [if_neg hd5]
      obtain ⟨m', e1, e2, e3⟩ := nop hd5
      rw [e1, bi_s, if_pos rfl]
      exact ⟨_, rfl, PC_l e3 e2⟩
  rw [if_neg k40, if_neg (fun h => k40 (z40.mp h))]
  by_cases k45 : tK b p = 45
  · rw [if_pos k45, if_pos (z45.mpr k45)]
    have hg := hG (by omega)
    by_cases hd5 : d < 5
    · rw [if_pos hd5, opn hd5, bi_s, if_neg (by decide)]
      obtain ⟨m1, e1, e2, e3, e4⟩ := CS_adv hB hp (CS_d hC (v := nI (d + 1)) rfl) (by omega)
      rw [e1, bv_s]
      obtain ⟨m2, g1, g2⟩ := hA (d + 1) (tN b p) l f m1 0 hN.2 (by omega) (by omega) e2 (by omega) (by omega)
      rw [g1, bv_s]
      have fr2 : FrC m m2 := ((FrC.p30 (m := m) (j := 7) (by decide) (nI (d + 1))).tr e3).tr g2.1
      rcases hr : ps b n 5 (d + 1) [] (tN b p) with e | ⟨c2, q2⟩
      · rw [bR_l]
        have g3 : CB m2 e := by rw [hr] at g2; exact g2.2
        obtain ⟨m3, i1, i2, i3⟩ := CB_emit (CB_d g3 (m2.1 30 7 - 1)) (-15)
        rw [i1, bv_s]
        exact ⟨_, rfl, PC_l ((fr2.tr (FrC.p30 (by decide) _)).tr i3) i2⟩
      · rw [bR_r]
        rw [hr] at g2
        obtain ⟨g3, g4, g5⟩ := g2.2
        obtain ⟨p1, p2, p3, p4⟩ := ps_pr hB _ _ _ _ _ _ _ hN.2 hr
        have p5 := p2 (by decide)
        obtain ⟨m3, i1, i2⟩ := PC_emit (x := -15) fr2 g3 (fun i hi => by rw [g4 i hi, e4, rI, if_neg (by omega)]) g5 (by omega) (v := m2.1 30 7 - 1) (d := d) (by rw [g3.2.2.2.2.2.2.1]; exact nI_pred d)
        rw [i1, bv_s]
        exact ⟨_, rfl, i2⟩
    · rw [if_neg hd5]
      obtain ⟨m', e1, e2, e3⟩ := nop hd5
      rw [e1, bi_s, if_pos rfl]
      exact ⟨_, rfl, PC_l e3 e2⟩
  rw [if_neg k45, if_neg (fun h => k45 (z45.mp h))]
  obtain ⟨m', e1, e2, e3⟩ := CS_fail hB hp hC (by omega)
  rw [e1, bv_s]
  exact ⟨_, rfl, PC_l e3 e2⟩
theorem bv_id (x : Option Mem) : (bv x fun m => some m) = x := by cases x <;> rfl
theorem po5 (f : Nat) (m : Mem) : X3_po (f + 1) 0 (nI 5) m = X3_po f 1 0 m := by
  rw [X3_po, if_pos rfl]
  unfold X3_phraseB
  rw [if_neg (by decide), bv_id]
theorem QI {n : Nat} (hA : QA b S n) (hB' : QB b S n) {L d p l f : Nat} {m : Mem} (hL : L < 5) (hp : p ≤ S) (hd : d ≤ 5) (hn : 10 * (S + 1 - p) + (4 - L) < n) (hC : CS m b S p d l) (hl : l ≤ p) (hf : 41 - 7 * d - L ≤ f) : ∃ m', X3_po f 0 (nI (L + 1)) m = some m' ∧ PC m m' b S d l (ps b n (L + 1) d [] p) := by
  by_cases h : L + 1 < 5
  · exact hB' (L + 1) d p l f m h hp hd (by omega) hC hl (by omega)
  · have h4 : L = 4 := by omega
    subst h4
    obtain ⟨f, rfl⟩ : ∃ f', f = f' + 1 := ⟨f - 1, by omega⟩
    rw [po5]
    exact hA d p l f m 0 hp hd (by omega) hC hl (by omega)
theorem QBs (hB : By b S) {n : Nat} (hA : QA b S n) (hB' : QB b S n) (hC' : QC b S n) : QB b S (n + 1) := by
  have hS := hB.hS
  intro L d p l f m hL hp hd hn hC hl hf
  obtain ⟨f, rfl⟩ : ∃ f', f = f' + 1 := ⟨f - 1, by omega⟩
  have hN := tN_le hB hp
  have hG := tN_gt hB hp
  have hk := tK_lt b p
  have c3 := hC.2.2.1
  have c7 := hC.2.2.2.2.2.2.1
  rw [X3_po, if_pos rfl, ps, if_neg (show ¬ L = 5 by omega), if_pos hL]
  unfold X3_phraseB
  rw [if_pos (show nI L < 5 from nI_lt (b := 5) hL (by decide)), c3]
  have z2 : (nI L = 2) = (L = 2) := n_eq (b := 2) (by omega) (by decide)
  have z15 : (nI (tK b p) = 15) = (tK b p = 15) := n_eq (b := 15) (by omega) (by decide)
  have main : ∃ m', X3_phraseB_58 (X3_po f) (nI L) m = some m' ∧ PC m m' b S d l (bR (ps b n (L + 1) d [] p) fun c q => ps b n (L + 10) d c q) := by
    unfold X3_phraseB_58 X3_phraseB_77
    rw [nI_1]
    obtain ⟨m1, g1, g2⟩ := QI hA hB' hL hp hd (by omega) hC hl (f := f) (by omega)
    rw [g1, bv_s]
    have e58 : (if nI L = 2 then X3_phraseB_80 (X3_po f) 10000 (nI L) 1 0 m1 else X3_phraseB_80 (X3_po f) 10000 (nI L) 160 0 m1) = X3_phraseB_80 (X3_po f) 10000 (nI L) (if L = 2 then 1 else 160) 0 m1 := by
      by_cases h2 : L = 2
      · rw [if_pos (z2.mpr h2), if_pos h2]
      · rw [if_neg (fun h => h2 (z2.mp h)), if_neg h2]
    rw [e58]
    rcases hr : ps b n (L + 1) d [] p with e | ⟨c2, q2⟩
    · rw [bR_l]
      rw [hr] at g2
      exact ⟨m1, CB_loop g2.2 _ 9999 _ _ _, PC_l g2.1 g2.2⟩
    · rw [bR_r]
      rw [hr] at g2
      obtain ⟨g3, g4, g5⟩ := g2.2
      obtain ⟨p1, p2, p3, p4⟩ := ps_pr hB _ _ _ _ _ _ _ hp hr
      have p5 := p2 (by omega)
      obtain ⟨m2, i1, i2⟩ := hC' L d q2 l f 10000 0 c2 m1 hL p1 hd (by omega) g3 (by omega) (by omega) (by omega) (by omega) (fun _ => rfl) g5
      refine ⟨m2, i1, g2.1.tr i2.1, ?_⟩
      have i3 := i2.2
      rcases hr2 : ps b n (L + 10) d c2 q2 with e | ⟨c3, q3⟩
      · rw [hr2] at i3; exact i3
      · rw [hr2] at i3
        exact ⟨i3.1, fun i hi => by rw [i3.2.1 i hi, g4 i hi], i3.2.2⟩
  by_cases h2 : L = 2
  · rw [if_pos (z2.mpr h2)]
    by_cases k15 : tK b p = 15
    · rw [if_pos (z15.mpr k15), if_pos ⟨h2, k15⟩]
      have hg := hG (by omega)
      by_cases hd5 : d < 5
      · have opn : X3_opens m = some (1, pI m 30 7 (nI (d + 1))) := by
          unfold X3_opens
          rw [c7, if_pos (show nI d < 5 from nI_lt (b := 5) hd5 (by decide)), nI_1]
        rw [if_pos hd5, opn, bi_s, if_neg (by decide)]
        obtain ⟨m1, e1, e2, e3, e4⟩ := CS_adv hB hp (CS_d hC (v := nI (d + 1)) rfl) (by omega)
        rw [e1, bv_s]
        obtain ⟨m2, g1, g2⟩ := hB' 2 (d + 1) (tN b p) l f m1 (by decide) hN.2 (by omega) (by omega) e2 (by omega) (by omega)
        have g1' : X3_po f 0 2 m1 = some m2 := g1
        rw [g1', bv_s]
        have fr2 : FrC m m2 := ((FrC.p30 (m := m) (j := 7) (by decide) (nI (d + 1))).tr e3).tr g2.1
        rcases hr : ps b n 2 (d + 1) [] (tN b p) with e | ⟨c2, q2⟩
        · rw [bR_l]
          have g3 : CB m2 e := by rw [hr] at g2; exact g2.2
          obtain ⟨m3, i1, i2, i3⟩ := CB_emit (CB_d g3 (m2.1 30 7 - 1)) (-9)
          rw [i1, bv_s]
          exact ⟨_, rfl, PC_l ((fr2.tr (FrC.p30 (by decide) _)).tr i3) i2⟩
        · rw [bR_r]
          rw [hr] at g2
          obtain ⟨g3, g4, g5⟩ := g2.2
          obtain ⟨p1, p2, p3, p4⟩ := ps_pr hB _ _ _ _ _ _ _ hN.2 hr
          have p5 := p2 (by decide)
          obtain ⟨m3, i1, i2⟩ := PC_emit (x := -9) fr2 g3 (fun i hi => by rw [g4 i hi, e4, rI, if_neg (by omega)]) g5 (by omega) (v := m2.1 30 7 - 1) (d := d) (by rw [g3.2.2.2.2.2.2.1]; exact nI_pred d)
          rw [i1, bv_s]
          exact ⟨_, rfl, i2⟩
      · rw [if_neg hd5]
        obtain ⟨m', e1, e2, e3⟩ := CS_fail hB hp hC (by omega)
        unfold X3_opens
        rw [c7, if_neg (show ¬ nI d < 5 from nI_nlt (b := 5) (by omega) (by omega)), e1, bv_s, bi_s, if_pos rfl]
        exact ⟨_, rfl, PC_l e3 e2⟩
    · rw [if_neg (fun h => k15 (z15.mp h)), if_neg (fun h => k15 h.2)]
      exact main
  · rw [if_neg (fun h => h2 (z2.mp h)), if_neg (fun h => h2 h.1)]
    exact main
theorem QCs (hB : By b S) {n : Nat} (hA : QA b S n) (hB' : QB b S n) (hC' : QC b S n) : QC b S (n + 1) := by
  have hS := hB.hS
  intro L d p l f k v3 acc m hL hp hd hn hC hl hf hv hk hv2 hacc
  obtain ⟨k, rfl⟩ : ∃ k', k = k' + 1 := ⟨k - 1, by omega⟩
  have hN := tN_le hB hp
  have hG := tN_gt hB hp
  have hkl := tK_lt b p
  have c3 := hC.2.2.1
  rw [X3_phraseB_80, ps, if_neg (show ¬ L + 10 = 5 by omega), if_neg (show ¬ L + 10 < 5 by omega)]
  simp only [Nat.add_sub_cancel, show L + 10 - 9 = L + 1 by omega]
  have stay : PC m m b S d l (.inr (acc, p)) := PC_r (FrC.rfl' m) hC (fun _ _ => rfl) hacc
  have hmost : (if L = 2 then (1 : Int32) else 160) = nI (if L = 2 then 1 else 160) := by split <;> rfl
  rw [hmost]
  by_cases hend : (if L = 2 then 1 else 160) ≤ v3
  · rw [if_pos (nI_le hend (by omega))]
    have hno : jn L (tK b p) = none := by
      by_cases h2 : L = 2
      · have := hv2 h2; rw [if_pos h2] at hend; omega
      · rw [if_neg h2] at hend
        rcases hj : jn L (tK b p) with _ | o
        · rfl
        · have := (jn_k hj).1
          have := hG this
          omega
    rw [hno]
    exact ⟨m, rfl, stay⟩
  · rw [if_neg (nI_ge (by omega) (by split <;> decide)), joinAt_c c3 hkl hL, bi_s]
    rcases hj : jn L (tK b p) with _ | o
    · simp only [if_true]
      exact ⟨m, rfl, stay⟩
    · simp only
      have hj2 := jn_k hj
      have hg := hG hj2.1
      rw [if_neg (show ¬ nI o = -1 from fun q => by
        have := congrArg Int32.toInt q
        rw [nI_toInt (by omega)] at this
        have h3 : (-1 : Int32).toInt = -1 := rfl
        omega)]
      obtain ⟨m1, e1, e2, e3, e4⟩ := CS_adv hB hp hC hj2.2.1
      rw [e1, bv_s, nI_1]
      obtain ⟨m2, g1, g2⟩ := QI hA hB' hL hN.2 hd (by omega) e2 (by omega) (f := f) (by omega)
      rw [g1, bv_s]
      rcases hr : ps b n (L + 1) d [] (tN b p) with e | ⟨c2, q2⟩
      · rw [bR_l]
        rw [hr] at g2
        obtain ⟨m3, i1, i2, i3⟩ := CB_emit g2.2 (-7 - nI o)
        rw [i1, bv_s]
        obtain ⟨k, rfl⟩ : ∃ k', k = k' + 1 := ⟨k - 1, by omega⟩
        exact ⟨m3, CB_loop i2 _ k _ _ _, PC_l ((e3.tr g2.1).tr i3) i2⟩
      · rw [bR_r]
        rw [hr] at g2
        obtain ⟨g3, g4, g5⟩ := g2.2
        obtain ⟨p1, p2, p3, p4⟩ := ps_pr hB _ _ _ _ _ _ _ hN.2 hr
        simp only [List.length_nil] at p4
        obtain ⟨m3, i1, i2, i3, i4, i5⟩ := CS_emit g3 (by omega) (-7 - nI o)
        rw [i1, bv_s, nI_1]
        have fr : FrC m m3 := (e3.tr g2.1).tr i3
        have hlen : (acc ++ (c2 ++ [-7 - nI o])).length = acc.length + (c2.length + 1) := by simp
        have hcs : CS m3 b S q2 d (l + (acc ++ (c2 ++ [-7 - nI o])).length) := by
          rw [hlen, show l + (acc.length + (c2.length + 1)) = l + acc.length + c2.length + 1 by omega]; exact i2
        have hlow : ∀ i, i < l → m3.1 32 i = m.1 32 i := fun i hi => by rw [i4 i (by omega), g4 i (by omega), e4]
        have hcode : ∀ i, i < (acc ++ (c2 ++ [-7 - nI o])).length → m3.1 32 (l + i) = (acc ++ (c2 ++ [-7 - nI o])).getD i 0 := by
          intro i hi
          rw [hlen] at hi
          rw [getD_app2]
          by_cases h1 : i < acc.length
          · rw [if_pos h1, i4 _ (by omega), g4 _ (by omega), e4, hacc i h1]
          · rw [if_neg h1, getD_app (by omega)]
            by_cases h3 : i - acc.length < c2.length
            · rw [if_pos h3, i4 _ (by omega), ← g5 _ h3, show l + acc.length + (i - acc.length) = l + i by omega]
            · rw [if_neg h3, show l + i = l + acc.length + c2.length by omega, i5]
        by_cases h2 : L = 2
        · have hv0 := hv2 h2
          subst h2; subst hv0
          rw [if_pos (show 2 + 10 = 12 from rfl)]
          obtain ⟨k, rfl⟩ : ∃ k', k = k' + 1 := ⟨k - 1, by omega⟩
          rw [X3_phraseB_80]
          simp only [if_true]
          rw [if_pos (by decide)]
          exact ⟨m3, rfl, PC_r fr hcs hlow hcode⟩
        · rw [if_neg (show ¬ L + 10 = 12 by omega)]
          have hm2 := hmost
          obtain ⟨m4, j1, j2⟩ := hC' L d q2 l f k (v3 + 1) _ m3 hL p1 hd (by omega) hcs (by omega) hf (by omega) (by omega) (fun h => absurd h h2) hcode
          rw [hmost] at j1
          refine ⟨m4, j1, fr.tr j2.1, ?_⟩
          have j3 := j2.2
          rcases hr2 : ps b n (L + 10) d (acc ++ (c2 ++ [-7 - nI o])) q2 with e | ⟨c3, q3⟩
          · rw [hr2] at j3; exact j3
          · rw [hr2] at j3
            exact ⟨j3.1, fun i hi => by rw [j3.2.1 i hi, hlow i hi], j3.2.2⟩
theorem Qall (hB : By b S) : ∀ n, QA b S n ∧ QB b S n ∧ QC b S n := by
  intro n
  induction n with
  | zero => exact ⟨fun d p l f m x _ _ h => by omega, fun L d p l f m _ _ _ h => by omega, fun L d p l f k v3 acc m _ _ _ h => by omega⟩
  | succ n ih => exact ⟨QAs hB ih.1 ih.2.1, QBs hB ih.1 ih.2.1 ih.2.2, QCs hB ih.1 ih.2.1 ih.2.2⟩
end
