/-! what is kept worked out -/
def fK (c : Cd) : Nat := if -3 ∈ wC c then 1 else 0
def fO (c : Cd) : Nat := if -6 ∈ wC c then 1 else 0
def TxC (m : Mem) (z : Nat → Nat) (k : Nat) (c : Cd) : Prop := TcC m z (tid k) c.1 c.2.1 c.2.2 ∧ m.1 (tid k) 2 = nI (fK c) ∧ m.1 (tid k) 3 = nI (fO c) ∧ Tv c
def RdO (r : Nat → Nat) : Prop := (∀ k, k < 64 → r k ≤ 99) ∧ ∀ w, w < 8 → r (9 * w) = 0
def SvO (r : Nat → Nat) (m : Mem) : Prop := ∀ a, a < 8 → bp (m.1 1 3) a = true → ∀ t, t < 8 → m.1 3 (8 * a + t) = nI (fwD r (8 * a + t))
def keyN (ve ru pl nu kc ro : Nat) : Nat := ((((ve * 6 + ru) * 8 + pl) * 10 + nu) * 9 + kc) * 1020 + ro
def VwO (cd : Nat → Cd) (r : Nat → Nat) (nt ve : Nat) (m : Mem) (i : Nat) : Prop := (m.2 (38 + 2 * i) 0).toInt < ve * 4406400 ∨ ∃ ru pl nu kc ro, ru ≤ nt ∧ pl < 8 ∧ nu < 10 ∧ kc < 9 ∧ ro < 1020 ∧ m.2 (38 + 2 * i) 0 = lN (keyN ve ru pl nu (fK (cd ru) * kc) (fO (cd ru) * ro)) ∧ ∀ w t, w < 3 → t < 8 → bp (m.1 (38 + 2 * i) 1) (8 * w + t) = true → m.1 (39 + 2 * i) (8 * w + t) = sayP (cd ru) r pl nu kc ro w t
def CE (cd : Nat → Cd) (r : Nat → Nat) (nt : Nat) (z : Nat → Nat) (ve : Nat) (m : Mem) : Prop := nt ≤ 5 ∧ (∀ k, k ≤ nt → TxC m z k (cd k)) ∧ RdO r ∧ Ro m 2 r ∧ SvO r m ∧ m.1 1 4 = nI ve ∧ ve ≤ 1000 ∧ ∀ i, i < 6 → VwO cd r nt ve m i
/-- where what is kept worked out lies -/
def FrX (m m' : Mem) : Prop := (∀ x j, ¬ (x = 1 ∧ j = 3) → x ≠ 3 → ¬ (36 ≤ x ∧ x ≤ 49) → m'.1 x j = m.1 x j) ∧ ∀ x j, ¬ (38 ≤ x ∧ x ≤ 49) → m'.2 x j = m.2 x j
theorem FrX_r (m : Mem) : FrX m m := ⟨fun _ _ _ _ _ => rfl, fun _ _ _ => rfl⟩
theorem FrX_t {a b d : Mem} (h : FrX a b) (g : FrX b d) : FrX a d := ⟨fun x j p q s => (g.1 x j p q s).trans (h.1 x j p q s), fun x j p => (g.2 x j p).trans (h.2 x j p)⟩
/-- people -/
def RF (f : Nat) (m : Mem) (G : Nat → Nat → Nat) : Prop := (∀ p, p < 3 → m.1 f p = nI (G 0 p)) ∧ ∀ j p, 1 ≤ j → j ≤ 6 → p < 6 → m.1 (f + j) p = nI (G j p)
def GO (nt R : Nat) (G : Nat → Nat → Nat) : Prop := G 0 0 ≤ 6 ∧ G 0 1 ≤ R ∧ G 0 2 ≤ nt ∧ ∀ p, p < 6 → G 1 p ≤ 5 ∧ G 2 p ≤ 9 ∧ G 3 p ≤ 7 ∧ G 4 p ≤ 255 ∧ G 5 p ≤ 255 ∧ G 6 p ≤ 99999
def saG (cd : Nat → Cd) (r : Nat → Nat) (G : Nat → Nat → Nat) (p w t : Nat) : Int32 := sayP (cd (G 0 2)) r (G 3 p) (G 2 p) (popc (G 4 p)) (G 0 1) w t
def isFo (f : Nat) : Prop := f = 5 ∨ f = 16 ∨ f = 23
theorem FrX_f {f : Nat} {m m' : Mem} {G : Nat → Nat → Nat} (hf : isFo f) (h : FrX m m') (g : RF f m G) : RF f m' G := by
  unfold isFo at hf
  exact ⟨fun p hp => by rw [h.1 f p (by omega) (by omega) (by omega)]; exact g.1 p hp, fun j p h1 h2 hp => by rw [h.1 (f + j) p (by omega) (by omega) (by omega)]; exact g.2 j p h1 h2 hp⟩
/-- how far it is, when it may be kept -/
theorem farFrom_c {r : Nat → Nat} {a t : Nat} {m : Mem} (ha : a < 8) (ht : t < 8) (hr : RdO r) (ho : Ro m 2 r) (hs : SvO r m) : ∃ m', X4_farFrom (nI a) (nI t) m = some (nI (fwD r (8 * a + t)), m') ∧ SvO r m' ∧ m'.2 = m.2 ∧ ∀ x j, ¬ (x = 1 ∧ j = 3) → x ≠ 3 → m'.1 x j = m.1 x j := by
  unfold X4_farFrom
  have e8 : a * 8 + t = 8 * a + t := by omega
  by_cases q : bp (m.1 1 3) a = false
  · obtain ⟨m', b1, b2, b3⟩ := spF_3 (r := r) (ok := fun _ => true) (kn := nI 255) (B := 8 * a) (x := a) ha (by omega) hr.1 hr.2 (fun t ht => (bp_255 t ht).symm) (fwD_is r hr.2 hr.1 ha) 10000 0 m (by decide) (by decide) ho (fun u hu => absurd hu (by omega))
    have b1' : X4_spreadF (nI a) (255 : Int32) (nI a * (8 : Int32)) m = some m' := by
      rw [← b1]
      unfold X4_spreadF
      rw [show nI a * (8 : Int32) = nI (8 * a) by rw [L8, pk_mul, Nat.mul_comm]]
      rfl
    have hc : ((m.1 1 3 >>> (nI a &&& 31)) &&& (1 : Int32)) = 0 := bp_f.mpr q
    simp only [hc, ↓reduceIte, b1', bv]
    have hm3 : m'.1 1 3 = m.1 1 3 := b3.2 1 3 (by omega)
    refine ⟨pI m' 1 3 (m'.1 1 3 ||| ((1 : Int32) <<< (nI a &&& 31))), ?_, ?_, b3.1, ?_⟩
    · have e := b2 t ht
      have e' : (pI m' 1 3 (m'.1 1 3 ||| ((1 : Int32) <<< (nI a &&& 31)))).1 3 (8 * a + t) = nI (fwD r (8 * a + t)) := by rw [rI, if_neg (by omega)]; exact e
      unfold X4_farFrom_39
      simp (disch := omega) only [leT, leF, ltT, ltF, eqT, eqF, inT, n_cl, nI_add, pk_mul, n_div, pk_sub, md8, Bool.true_eq_false, Bool.false_eq_true, L0, L1, L2, L3, L4, L5, L6, L7, L8, L9, L10, L20, L31, L40, L64, L99, L100, L255, L256, L999, L1000, L99999, ↓reduceIte, e8]
      rw [show nI 1 <<< (nI a &&& nI 31) = (1 : Int32) <<< (nI a &&& 31) from rfl, e']
    · intro a' ha' hb t' ht'
      rw [rI, if_neg (by omega)]
      rw [rI, if_pos ⟨rfl, rfl⟩, show ((1 : Int32) <<< (nI a &&& 31)) = nI 1 <<< (nI a &&& nI 31) from rfl, bp_or _ _ (by omega), bp_1 a (by omega) a' (by omega), hm3] at hb
      by_cases z : a' = a
      · subst z; exact b2 t' ht'
      · rw [b3.2 3 (8 * a' + t') (by omega)]
        refine hs a' ha' ?_ t' ht'
        simpa [show ¬ a = a' from fun y => z y.symm] using hb
    · intro x j h1 h2
      rw [rI, if_neg h1]
      exact b3.2 x j (fun z => h2 z.1)
  · have hc : ¬ ((m.1 1 3 >>> (nI a &&& 31)) &&& (1 : Int32)) = 0 := fun z => q (bp_f.mp z)
    simp only [hc, ↓reduceIte]
    refine ⟨m, ?_, hs, rfl, fun _ _ _ _ => rfl⟩
    have e := hs a ha (by simpa using q) t ht
    unfold X4_farFrom_39
    simp (disch := omega) only [leT, leF, ltT, ltF, eqT, eqF, inT, n_cl, nI_add, pk_mul, n_div, pk_sub, md8, Bool.true_eq_false, Bool.false_eq_true, L0, L1, L2, L3, L4, L5, L6, L7, L8, L9, L10, L20, L31, L40, L64, L99, L100, L255, L256, L999, L1000, L99999, ↓reduceIte, e8, e]
theorem fK_le (c : Cd) : fK c ≤ 1 := by unfold fK; split <;> omega
theorem fO_le (c : Cd) : fO c ≤ 1 := by unfold fO; split <;> omega
theorem key_u {ve ru pl nu kc ro ru' pl' nu' kc' ro' : Nat} (h1 : ru < 6) (h2 : pl < 8) (h3 : nu < 10) (h4 : kc < 9) (h5 : ro < 1020) (g1 : ru' < 6) (g2 : pl' < 8) (g3 : nu' < 10) (g4 : kc' < 9) (g5 : ro' < 1020) (h : keyN ve ru pl nu kc ro = keyN ve ru' pl' nu' kc' ro') : ru = ru' ∧ pl = pl' ∧ nu = nu' ∧ kc = kc' ∧ ro = ro' := by
  unfold keyN at h
  refine ⟨by omega, by omega, by omega, by omega, by omega⟩
theorem key_l {ve ru pl nu kc ro : Nat} (h0 : ve ≤ 1000) (h1 : ru < 6) (h2 : pl < 8) (h3 : nu < 10) (h4 : kc < 9) (h5 : ro < 1020) : ve * 4406400 ≤ keyN ve ru pl nu kc ro ∧ keyN ve ru pl nu kc ro < (ve + 1) * 4406400 := by
  unfold keyN; omega
theorem keyOf_c {cd : Nat → Cd} {r : Nat → Nat} {nt ve f p : Nat} {z : Nat → Nat} {m : Mem} {G : Nat → Nat → Nat} (hE : CE cd r nt z ve m) (hR : RF f m G) (hG : GO nt 1019 G) (hp : p < 6) : X5_keyOf f (tid (G 0 2)) (nI p) m = some (lN (keyN ve (G 0 2) (G 3 p) (G 2 p) (fK (cd (G 0 2)) * popc (G 4 p)) (fO (cd (G 0 2)) * G 0 1)), m) := by
  obtain ⟨e1, e2, e3, e4, e5, e6, e7, e8⟩ := hE
  obtain ⟨g1, g2, g3, g4⟩ := hG
  obtain ⟨p1, p2, p3, p4, p5, p6⟩ := g4 p hp
  obtain ⟨t1, t2, t3, t4⟩ := e2 (G 0 2) g3
  have r2 := hR.1 2 (by decide)
  have r1 := hR.1 1 (by decide)
  have s3 := hR.2 3 p (by decide) (by decide) hp
  have s2 := hR.2 2 p (by decide) (by decide) hp
  have s4 := hR.2 4 p (by decide) (by decide) hp
  have pc := popc_le (G 4 p) (by omega)
  unfold X5_keyOf X5_keyOf_82
  unfold keyN
  by_cases q : -3 ∈ wC (cd (G 0 2))
  · have k1 : fK (cd (G 0 2)) = 1 := by unfold fK; rw [if_pos q]
    by_cases q2 : -6 ∈ wC (cd (G 0 2))
    · have k2 : fO (cd (G 0 2)) = 1 := by unfold fO; rw [if_pos q2]
      rw [k1] at t2
      rw [k2] at t3
      simp (disch := omega) only [leT, leF, ltT, ltF, eqT, eqF, inT, n_cl, nI_add, pk_mul, n_div, pk_sub, md8, Bool.true_eq_false, Bool.false_eq_true, L0, L1, L2, L3, L4, L5, L6, L7, L8, L9, L10, L20, L31, L40, L64, L99, L100, L255, L256, L999, L1000, L99999, ↓reduceIte, t2, t3, s2, s3, s4, r1, r2, e6, bitCount_c (show G 4 p < 256 by omega), bi, nI_l, k1, k2, Nat.one_mul]
      simp only [show (6 : Int64) = lN 6 from rfl, show (8 : Int64) = lN 8 from rfl, show (10 : Int64) = lN 10 from rfl, show (9 : Int64) = lN 9 from rfl, show (1020 : Int64) = lN 1020 from rfl, lN_mul, lN_add]
    · have k2 : fO (cd (G 0 2)) = 0 := by unfold fO; rw [if_neg q2]
      rw [k1] at t2
      rw [k2] at t3
      simp (disch := omega) only [leT, leF, ltT, ltF, eqT, eqF, inT, n_cl, nI_add, pk_mul, n_div, pk_sub, md8, Bool.true_eq_false, Bool.false_eq_true, L0, L1, L2, L3, L4, L5, L6, L7, L8, L9, L10, L20, L31, L40, L64, L99, L100, L255, L256, L999, L1000, L99999, ↓reduceIte, t2, t3, s2, s3, s4, r1, r2, e6, bitCount_c (show G 4 p < 256 by omega), bi, nI_l, k1, k2, Nat.one_mul, Nat.zero_mul]
      simp only [show (6 : Int64) = lN 6 from rfl, show (8 : Int64) = lN 8 from rfl, show (10 : Int64) = lN 10 from rfl, show (9 : Int64) = lN 9 from rfl, show (1020 : Int64) = lN 1020 from rfl, lN_mul, lN_add]
  · have k1 : fK (cd (G 0 2)) = 0 := by unfold fK; rw [if_neg q]
    by_cases q2 : -6 ∈ wC (cd (G 0 2))
    · have k2 : fO (cd (G 0 2)) = 1 := by unfold fO; rw [if_pos q2]
      rw [k1] at t2
      rw [k2] at t3
      simp (disch := omega) only [leT, leF, ltT, ltF, eqT, eqF, inT, n_cl, nI_add, pk_mul, n_div, pk_sub, md8, Bool.true_eq_false, Bool.false_eq_true, L0, L1, L2, L3, L4, L5, L6, L7, L8, L9, L10, L20, L31, L40, L64, L99, L100, L255, L256, L999, L1000, L99999, ↓reduceIte, t2, t3, s2, s3, s4, r1, r2, e6, nI_l, k1, k2, Nat.one_mul, Nat.zero_mul]
      simp only [show (6 : Int64) = lN 6 from rfl, show (8 : Int64) = lN 8 from rfl, show (10 : Int64) = lN 10 from rfl, show (9 : Int64) = lN 9 from rfl, show (1020 : Int64) = lN 1020 from rfl, lN_mul, lN_add]
    · have k2 : fO (cd (G 0 2)) = 0 := by unfold fO; rw [if_neg q2]
      rw [k1] at t2
      rw [k2] at t3
      simp (disch := omega) only [leT, leF, ltT, ltF, eqT, eqF, inT, n_cl, nI_add, pk_mul, n_div, pk_sub, md8, Bool.true_eq_false, Bool.false_eq_true, L0, L1, L2, L3, L4, L5, L6, L7, L8, L9, L10, L20, L31, L40, L64, L99, L100, L255, L256, L999, L1000, L99999, ↓reduceIte, t2, t3, s2, s3, s4, r1, r2, e6, nI_l, k1, k2, Nat.one_mul, Nat.zero_mul]
      simp only [show (6 : Int64) = lN 6 from rfl, show (8 : Int64) = lN 8 from rfl, show (10 : Int64) = lN 10 from rfl, show (9 : Int64) = lN 9 from rfl, show (1020 : Int64) = lN 1020 from rfl, lN_mul, lN_add]
