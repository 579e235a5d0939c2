/-! TEXT: the reference reads -/
def FrR (m m' : Mem) : Prop := (∀ x j, ¬ (x = 63 ∧ 21 ≤ j ∧ j ≤ 27) → m'.1 x j = m.1 x j) ∧ ∀ x j, ¬ (x = 63 ∧ j = 24) → m'.2 x j = m.2 x j
theorem FrR.rfl' (m : Mem) : FrR m m := ⟨fun _ _ _ => rfl, fun _ _ _ => rfl⟩
theorem FrR.tr {m m' m2 : Mem} (h : FrR m m') (g : FrR m' m2) : FrR m m2 := ⟨fun x j hx => (g.1 x j hx).trans (h.1 x j hx), fun x j hx => (g.2 x j hx).trans (h.2 x j hx)⟩
theorem FrR.pI {m : Mem} {j : Nat} (h : 21 ≤ j ∧ j ≤ 27) (v : Int32) : FrR m (pI m 63 j v) := ⟨fun x i hx => by rw [rI, if_neg (by omega)], fun _ _ _ => rfl⟩
theorem FrN.r {m m' : Mem} (h : FrN m m') : FrR m m' := ⟨fun x j hx => h.1 x j (by omega), h.2⟩
theorem Rt.fr2 {m m' : Mem} {b : Nat → Nat} {S B : Nat} (h : Rt m b S B) (g : FrR m m') : Rt m' b S B := ⟨by rw [g.1 _ _ (by omega)]; exact h.1, by rw [g.1 _ _ (by omega)]; exact h.2.1, h.2.2.1, fun i hi => by rw [g.1 _ _ (by omega)]; exact h.2.2.2 i hi⟩
def RS (b : Nat → Nat) (S B : Nat) (nm : Nat → Int32) (m : Mem) (p d : Nat) : Prop := Rt m b S B ∧ TkR m b (tkA b p) ∧ m.1 63 25 = nI d ∧ m.1 63 26 = 0 ∧ ∀ i, i < 6 → m.1 63 (13 + i) = nm i
def RB (m : Mem) (f : Nat) : Prop := m.1 63 26 = 1 ∧ m.1 63 27 = nI f
section
variable {b : Nat → Nat} {S B : Nat} {nm : Nat → Int32}
theorem TkR_pI {m : Mem} {a j : Nat} (h : TkR m b a) (hj : 25 ≤ j) (v : Int32) : TkR (pI m 63 j v) b a := by
  obtain ⟨h1, h2, h3, h4, h5⟩ := h
  exact ⟨by rw [rI, if_neg (by omega)]; exact h1, by rw [rI, if_neg (by omega)]; exact h2, by rw [rI, if_neg (by omega)]; exact h3, h4, h5⟩
theorem RS_d {m : Mem} {p d d' : Nat} (h : RS b S B nm m p d) {v : Int32} (hv : v = nI d') : RS b S B nm (pI m 63 25 v) p d' := by
  obtain ⟨h1, h2, h3, h4, h5⟩ := h
  exact ⟨h1.fr2 (FrR.pI (by omega) _), TkR_pI h2 (by omega) _, by rw [rI, if_pos ⟨rfl, rfl⟩, hv], by rw [rI, if_neg (by omega)]; exact h4, fun i hi => by rw [rI, if_neg (by omega)]; exact h5 i hi⟩
theorem RS_next (hB : By b S) {m : Mem} {p d : Nat} (hp : p ≤ S) (h : RS b S B nm m p d) (hk : tK b p ≠ 1) : ∃ m', X10_next m = some m' ∧ RS b S B nm m' (tN b p) d ∧ FrR m m' := by
  obtain ⟨h1, h2, h3, h4, h5⟩ := h
  obtain ⟨m', e1, e2, e3⟩ := nxt_r hB (tN_le hB hp).2 h1 (pos_r h2 hk)
  exact ⟨m', e1, ⟨h1.fr e3, e2, by rw [e3.1 _ _ (by omega)]; exact h3, by rw [e3.1 _ _ (by omega)]; exact h4, fun i hi => by rw [e3.1 _ _ (by omega)]; exact h5 i hi⟩, e3.r⟩
theorem RS_fail {m : Mem} {p d : Nat} (h : RS b S B nm m p d) : ∃ m', X10_fail m = some m' ∧ RB m' (tkA b p) ∧ FrR m m' := by
  obtain ⟨h1, h2, h3, h4, h5⟩ := h
  unfold X10_fail
  rw [if_pos h4]
  exact ⟨_, rfl, ⟨by simp [rI], by simp [rI, h2.1]⟩, (FrR.pI (by omega) _).tr (FrR.pI (by omega) _)⟩
theorem RB_fail {m : Mem} {f : Nat} (h : RB m f) : X10_fail m = some m := by
  unfold X10_fail
  rw [h.1, if_neg (by decide)]
theorem RB_sign {m : Mem} {f : Nat} (h : RB m f) (s : Int32) : X10_isSign s m = some (0, m) := by
  unfold X10_isSign
  rw [h.1, if_neg (by decide)]
theorem RB_word {m : Mem} {f : Nat} (h : RB m f) (a b c d e f' g i : Int32) : X10_isWord a b c d e f' g i m = some (0, m) := by
  unfold X10_isWord
  rw [h.1, if_neg (by decide)]
theorem RB_d {m : Mem} {f : Nat} (h : RB m f) (v : Int32) : RB (pI m 63 25 v) f := ⟨by simp [rI, h.1], by simp [rI, h.2]⟩
theorem RS_sign {m : Mem} {p d s : Nat} (h : RS b S B nm m p d) (hs : isSg s = true) : X10_isSign (nI s) m = some (if tK b p = s then 1 else 0, m) := isSign_r h.2.1 h.2.2.2.1 hs
theorem RS_opens (hB : By b S) {m : Mem} {p d : Nat} (hp : p ≤ S) (h : RS b S B nm m p d) (hk : tK b p ≠ 1) (hd : d < 5) : ∃ m', X10_opens m = some (1, m') ∧ RS b S B nm m' (tN b p) (d + 1) ∧ FrR m m' := by
  unfold X10_opens
  rw [h.2.2.1, if_neg (show ¬ nI d = 5 from fun q => by have := (nI_eq (b := 5) (by omega) (by decide)).mp q; omega), nI_1]
  obtain ⟨m', e1, e2, e3⟩ := RS_next hB hp (RS_d h (v := nI (d + 1)) rfl) hk
  rw [e1, bv_s]
  exact ⟨m', rfl, e2, (FrR.pI (by omega) _).tr e3⟩
theorem RS_opens5 {m : Mem} {p : Nat} (h : RS b S B nm m p 5) : ∃ m', X10_opens m = some (0, m') ∧ RB m' (tkA b p) ∧ FrR m m' := by
  unfold X10_opens
  obtain ⟨m', e1, e2, e3⟩ := RS_fail h
  rw [h.2.2.1, if_pos (show nI 5 = 5 from rfl), e1, bv_s]
  exact ⟨m', rfl, e2, e3⟩
end
/-- room on the stack -/
def nd (L d : Nat) : Nat := (5 - L) + 1 + 5 * (5 - d)
def PR (b : Nat → Nat) (S B : Nat) (nm : Nat → Int32) (m m' : Mem) (d H : Nat) (v : Int32) (R : Nat ⊕ (List Int32 × Nat)) : Prop := FrR m m' ∧ match R with
  | .inl f => RB m' f
  | .inr (c, q) => RS b S B nm m' q d ∧ Vl nm H c v
theorem PR_l {b : Nat → Nat} {S B : Nat} {nm : Nat → Int32} {m m' : Mem} {d H f : Nat} {v : Int32} (h1 : FrR m m') (h2 : RB m' f) : PR b S B nm m m' d H v (.inl f) := ⟨h1, h2⟩
theorem PR_r {b : Nat → Nat} {S B : Nat} {nm : Nat → Int32} {m m' : Mem} {d H q : Nat} {c : List Int32} {v : Int32} (h1 : FrR m m') (h2 : RS b S B nm m' q d) (h3 : Vl nm H c v) : PR b S B nm m m' d H v (.inr (c, q)) := ⟨h1, h2, h3⟩
def SP (b : Nat → Nat) (S B : Nat) (nm : Nat → Int32) (F : Mem → Option (Int32 × Mem)) (L d : Nat) : Prop := ∀ (n p : Nat) (m : Mem), p ≤ S → 10 * (S + 1 - p) + (5 - L) < n → RS b S B nm m p d → ∃ v m', F m = some (v, m') ∧ PR b S B nm m m' d (nd L d) v (ps b n L d [] p)
def LpR (b : Nat → Nat) (S B : Nat) (nm : Nat → Int32) (G : Nat → Int32 → Mem → Option (Int32 × Mem)) (L d : Nat) : Prop := ∀ (n p : Nat) (m : Mem) (acc : List Int32) (v : Int32) (k : Nat), p ≤ S → 10 * (S + 1 - p) < n → S + 1 - p < k → RS b S B nm m p d → Vl nm (nd L d) acc v → ∃ v' m', G k v m = some (v', m') ∧ PR b S B nm m m' d (nd L d) v' (ps b n (L + 10) d acc p)
