/-! TEXTs: what they say -/
abbrev Cd : Type := List Int32 × List Int32 × List Int32
def sel (c : Cd) (w : Nat) : List Int32 := if w = 0 then c.1 else if w = 1 then c.2.1 else c.2.2
def sayV (c : List Int32) (nm : Nat → Int32) : Int32 := match ex nm c [] with
  | some (v :: _) => v
  | _ => 0
theorem sayV_of {c : List Int32} {nm : Nat → Int32} {v : Int32} (h : Vl nm 31 c v) : sayV c nm = v := by
  unfold sayV
  rw [h [] (by decide)]
/-- each part has a worth, whatever the names are -/
def Tv (c : Cd) : Prop := ∀ nm w, w < 3 → Vl nm 31 (sel c w) (sayV (sel c w) nm)
def mT (b : Nat → Nat) (S : Nat) (nm : Nat → Int32) : Mem := (fun x j => if x = 65 then nI S else if x = 64 then nI (b j) else nm (j - 13), fun _ _ => 0)
theorem mT_t (b : Nat → Nat) (S : Nat) (nm : Nat → Int32) : Tx (mT b S nm) 0 b S := by
  refine ⟨by decide, ?_, fun i _ => ?_⟩
  · simp only [mT, ↓reduceIte]
  · rw [show 160 * 0 + i = i by omega]
    simp only [mT, show ¬ (64 = 65) by decide, ↓reduceIte]
theorem mT_n (b : Nat → Nat) (S : Nat) (nm : Nat → Int32) (i : Nat) : (mT b S nm).1 63 (13 + i) = nm i := by
  simp only [mT, show ¬ (63 = 65) by decide, show ¬ (63 = 64) by decide, ↓reduceIte]
  rw [show 13 + i - 13 = i by omega]
theorem Tv_1 {b : Nat → Nat} {nm : Nat → Int32} {m m' : Mem} {w : Nat} {v : Int32} {c : Cd} (h : rdT b = .inr c) (hr : RdR m m' nm w v (rdT b)) : Vl nm 31 (sel c w) v := by
  rw [h] at hr
  exact hr.2.2
theorem Tv_of {b : Nat → Nat} {S : Nat} {c : Cd} (hB : By b S) (h : rdT b = .inr c) : Tv c := by
  intro nm w hw
  have hx := read_r (nm := nm) hB (mT_t b S nm) (fun i _ => mT_n b S nm i) hw
  revert hx
  generalize X10_read (nI 0) (nI w) (mT b S nm) = y
  rintro ⟨v, m', _, hr⟩
  have hv := Tv_1 h hr
  rw [sayV_of hv]; exact hv
theorem ex_cong {nm nm' : Nat → Int32} : ∀ (c st : List Int32), (∀ x ∈ c, inn (-1 - x) 6 → nm (-1 - x).toNatClampNeg = nm' (-1 - x).toNatClampNeg) → ex nm c st = ex nm' c st := by
  intro c
  induction c with
  | nil => intro st _; rfl
  | cons x c ih =>
    intro st h
    have e : ex1 nm x st = ex1 nm' x st := by
      have hx := h x (List.mem_cons_self ..)
      unfold ex1
      by_cases q1 : x ≤ -7
      · rw [if_pos q1, if_pos q1]
      · rw [if_neg q1, if_neg q1]
        by_cases q2 : st.length < 40
        · rw [if_pos q2, if_pos q2]
          by_cases q3 : x < 0
          · rw [if_pos q3, if_pos q3]
            by_cases q4 : inn (-1 - x) 6
            · rw [if_pos q4, if_pos q4, hx q4]
            · rw [if_neg q4, if_neg q4]
          · rw [if_neg q3, if_neg q3]
        · rw [if_neg q2, if_neg q2]
    rw [ex, ex, e]
    have hc : ∀ y, ex nm c y = ex nm' c y := fun y => ih y (fun x hx => h x (List.mem_cons_of_mem _ hx))
    rw [show ex nm c = ex nm' c from funext hc]
def wC (c : Cd) : List Int32 := c.1 ++ (c.2.1 ++ c.2.2)
theorem sel_in {c : Cd} {w : Nat} {x : Int32} (h : x ∈ sel c w) : x ∈ wC c := by
  unfold sel at h
  unfold wC
  split at h
  · simp [h]
  · split at h <;> simp [h]
theorem sub1 {x : Int32} {i : Nat} (h : -1 - x = nI i) : x = -1 - nI i := by
  rw [← h]
  apply Int32.toBitVec_inj.1
  show x.toBitVec = (-1 : Int32).toBitVec - ((-1 : Int32).toBitVec - x.toBitVec)
  generalize (-1 : Int32).toBitVec = a
  apply BitVec.eq_of_toNat_eq
  have h1 := x.toBitVec.isLt
  have h2 := a.isLt
  rw [BitVec.toNat_sub, BitVec.toNat_sub]
  omega
theorem sayV_cong {c : Cd} {w : Nat} {nm nm' : Nat → Int32} (h : ∀ i, i < 6 → i ≠ 2 → i ≠ 5 → nm i = nm' i) (h2 : -3 ∈ wC c → nm 2 = nm' 2) (h5 : -6 ∈ wC c → nm 5 = nm' 5) : sayV (sel c w) nm = sayV (sel c w) nm' := by
  unfold sayV
  rw [ex_cong (nm := nm) (nm' := nm')]
  intro x hx hi
  obtain ⟨i, hi6, hxi⟩ := inn_ex hi (by decide)
  have hs := sub1 hxi
  rw [hxi, n_cl (by omega)]
  by_cases q2 : i = 2
  · subst q2; exact h2 (by have := sel_in hx; rw [hs] at this; exact this)
  · by_cases q5 : i = 5
    · subst q5; exact h5 (by have := sel_in hx; rw [hs] at this; exact this)
    · exact h i hi6 q2 q5
/-! how a part is bounded -/
def clN (v : Int32) : Nat := min v.toNatClampNeg 99
theorem cl_toNat (v : Int32) : (v.toNatClampNeg : Int) = max v.toInt 0 := by
  unfold Int32.toNatClampNeg
  omega
theorem cl_c (v : Int32) : (if (0 : Int32) < (if v < (99 : Int32) then v else (99 : Int32)) then (if v < (99 : Int32) then v else (99 : Int32)) else (0 : Int32)) = nI (clN v) := by
  apply Int32.toInt_inj.mp
  have h := cl_toNat v
  have e0 : (0 : Int32).toInt = 0 := rfl
  have e9 : (99 : Int32).toInt = 99 := rfl
  rw [nI_toInt (by unfold clN; omega)]
  unfold clN
  simp only [Int32.lt_iff_toInt_lt, e0, e9]
  by_cases q : v.toInt < 99
  · simp only [q, ↓reduceIte, e0]
    by_cases z : 0 < v.toInt
    · simp only [z, ↓reduceIte]; omega
    · simp only [z, ↓reduceIte, e0]; omega
  · simp only [q, ↓reduceIte, e9, e0]
    simp only [show (0 : Int) < 99 by decide, ↓reduceIte, e9]
    omega
theorem cl_r (v : Int32) (m : Mem) : X10_within v (0 : Int32) (99 : Int32) m = some (nI (clN v), m) := by
  unfold X10_within
  rw [← cl_c v]
  have e0 : (0 : Int32).toInt = 0 := rfl
  have e9 : (99 : Int32).toInt = 99 := rfl
  simp only [Int32.lt_iff_toInt_lt, Int32.le_iff_toInt_le, e0, e9]
  by_cases q : v.toInt < 99
  · by_cases z : 0 < v.toInt
    · simp only [q, z, ↓reduceIte, show (0 : Int) ≤ v.toInt by omega, show v.toInt ≤ 99 by omega]
    · simp only [q, z, ↓reduceIte]
      by_cases y : 0 ≤ v.toInt
      · simp only [y, show v.toInt ≤ 99 by omega, ↓reduceIte]
        rw [show v = 0 from Int32.toInt_inj.mp (by rw [e0]; omega)]
      · simp only [y, ↓reduceIte]
  · simp only [q, ↓reduceIte, e9, show (0 : Int) < 99 by decide, show (0 : Int) ≤ v.toInt by omega]
    by_cases y : v.toInt ≤ 99
    · simp only [y, ↓reduceIte]
      rw [show v = 99 from Int32.toInt_inj.mp (by rw [e9]; omega)]
    · simp only [y, ↓reduceIte]
theorem clN_le (v : Int32) : clN v ≤ 99 := by unfold clN; omega
def nmP (r : Nat → Nat) (pl nu kc ro t : Nat) : Nat → Int32 := fun i => if i = 0 then nI t else if i = 1 then nI nu else if i = 2 then nI kc else if i = 3 then nI (fwD r (8 * pl + t)) else if i = 4 then nI (if pl = t then 1 else 0) else nI ro
def sayP (c : Cd) (r : Nat → Nat) (pl nu kc ro w t : Nat) : Int32 := if w = 0 then sayV (sel c w) (nmP r pl nu kc ro t) else nI (clN (sayV (sel c w) (nmP r pl nu kc ro t)))
theorem sayP_cong {c : Cd} {r : Nat → Nat} {pl nu kc kc' ro ro' w t : Nat} (h2 : -3 ∈ wC c → kc = kc') (h5 : -6 ∈ wC c → ro = ro') : sayP c r pl nu kc ro w t = sayP c r pl nu kc' ro' w t := by
  unfold sayP
  have e : sayV (sel c w) (nmP r pl nu kc ro t) = sayV (sel c w) (nmP r pl nu kc' ro' t) := by
    apply sayV_cong
    · intro i hi a b
      unfold nmP
      rcases (show i = 0 ∨ i = 1 ∨ i = 3 ∨ i = 4 by omega) with rfl | rfl | rfl | rfl <;> rfl
    · intro q; show nI kc = nI kc'; rw [h2 q]
    · intro q; show nI ro = nI ro'; rw [h5 q]
  rw [e]
