/-! what holds behind every call -/
/-- where things are only worked out -/
def SF (m m' : Mem) : Prop := ∀ x j, ¬ (x = 1 ∧ j = 3) → x ≠ 3 → x ≠ 4 → ¬ (23 ≤ x ∧ x ≤ 29) → ¬ (36 ≤ x ∧ x ≤ 49) → ¬ (x = 63 ∧ 13 ≤ j ∧ j ≤ 32) → x ≠ 71 → x ≠ 72 → m'.1 x j = m.1 x j
theorem SF_r (m : Mem) : SF m m := fun _ _ _ _ _ _ _ _ _ _ => rfl
theorem SF_t {a b d : Mem} (h : SF a b) (g : SF b d) : SF a d := fun x j p1 p2 p3 p4 p5 p6 p7 p8 => (g x j p1 p2 p3 p4 p5 p6 p7 p8).trans (h x j p1 p2 p3 p4 p5 p6 p7 p8)
theorem SF_x {m m' : Mem} (h : FrX m m') : SF m m' := fun x j p1 p2 _ _ p5 _ _ _ => h.1 x j p1 p2 p5
theorem SF_a {m m' : Mem} (h : FrA m m') : SF m m' := fun x j _ _ _ _ _ p6 _ _ => h.1 x j (by omega)
theorem SF_m {m m' : Mem} (h : FrM 23 m m') : SF m m' := fun x j p1 p2 _ p4 p5 _ _ _ => h.1 x j p1 p2 p5 (by omega) (by omega) (by omega)
theorem SF_4 {m m' : Mem} (h : Fc 4 m m') : SF m m' := fun x j _ _ p3 _ _ _ _ _ => h.2 x j p3
theorem SF_72 {m m' : Mem} (h : Fc 72 m m') : SF m m' := fun x j _ _ _ _ _ _ _ p8 => h.2 x j p8
def RRk (m : Mem) (G : Fo) : Prop := m.1 63 33 = nI (G 0 0) ∧ m.1 63 34 = nI (G 0 1) ∧ m.1 63 35 = nI (G 0 2) ∧ ∀ p, p < 6 → m.1 74 (5 * p) = nI (G 2 p) ∧ m.1 74 (5 * p + 1) = nI (G 3 p) ∧ m.1 74 (5 * p + 2) = nI (G 4 p) ∧ m.1 74 (5 * p + 3) = nI (G 5 p) ∧ m.1 74 (5 * p + 4) = nI (G 6 p)
def KP (nt : Nat) (rk : Nat → Nat) (G H : Fo) (m : Mem) : Prop := (m.1 0 4 = nI 0 ∧ m.1 63 33 = -nI 1) ∨ (m.1 0 4 = nI 1 ∧ RF 16 m H ∧ GO nt 999 H ∧ RRk m H ∧ Ro m 13 rk ∧ Ro m 73 rk ∧ RdO rk ∧ H 0 0 ≤ G 0 0 ∧ ∀ p, p < H 0 0 → H 1 p = G 1 p)
def TPE (tp : Nat → Nat) (n : Nat) (m : Mem) : Prop := n ≤ 160 ∧ m.1 30 1 = nI n ∧ m.1 63 6 = nI n ∧ ∀ i, i < n → m.1 31 i = nI (tp i) ∧ m.1 66 i = nI (tp i) ∧ tp i < 256
def NTE (nt : Nat) (m : Mem) : Prop := m.1 33 2 = nI (nt + 1) ∧ m.1 63 3 = nI (nt + 1)
def SHt (m : Mem) (i so sz : Nat) : Prop := so ≤ 2 ∧ sz ≤ 40 ∧ m.1 (55 + 2 * i) 0 = nI so ∧ m.1 (55 + 2 * i) 1 = nI sz ∧ m.1 75 i = nI 1 ∧ m.1 76 i = nI so ∧ m.1 77 i = nI sz ∧ ∀ k, k < sz → m.1 (56 + 2 * i) k = m.1 78 (40 * i + k)
def SHE (m : Mem) (i : Nat) : Prop := (m.1 (55 + 2 * i) 0 = -nI 1 ∧ m.1 75 i = nI 0) ∨ ∃ so sz, SHt m i so sz
def IW (cd : Nat → Cd) (r rk : Nat → Nat) (G H : Fo) (tp : Nat → Nat) (n nt : Nat) (m : Mem) : Prop := RE cd r nt m ∧ RF 5 m G ∧ RR m G ∧ GO nt 999 G ∧ KP nt rk G H m ∧ TPE tp n m ∧ NTE nt m ∧ ∀ i, i < 4 → SHE m i
theorem RF_g {f : Nat} {m m' : Mem} {G : Fo} (h : ∀ x j, f ≤ x → x ≤ f + 6 → m'.1 x j = m.1 x j) (g : RF f m G) : RF f m' G :=
  ⟨fun p hp => by rw [h f p (by omega) (by omega)]; exact g.1 p hp, fun j p h1 h2 hp => by rw [h (f + j) p (by omega) (by omega)]; exact g.2 j p h1 h2 hp⟩
theorem Ro_g {c : Nat} {m m' : Mem} {r : Nat → Nat} (h : ∀ j, m'.1 c j = m.1 c j) (g : Ro m c r) : Ro m' c r := fun k hk => by rw [h k]; exact g k hk
theorem KP_g {nt : Nat} {rk : Nat → Nat} {G H : Fo} {m m' : Mem} (h : ∀ x j, (x = 0 ∨ 13 ≤ x ∧ x ≤ 22 ∨ x = 63 ∧ 33 ≤ j ∧ j ≤ 35 ∨ x = 73 ∨ x = 74) → m'.1 x j = m.1 x j) (g : KP nt rk G H m) : KP nt rk G H m' := by
  unfold KP
  rw [h 0 4 (by omega), h 63 33 (by omega)]
  rcases g with g | ⟨g1, g2, g3, ⟨g41, g42, g43, g44⟩, g5, g6, g7, g8, g9⟩
  · exact .inl g
  · refine .inr ⟨g1, RF_g (fun x j a b => h x j (by omega)) g2, g3, ⟨?_, ?_, ?_, fun p hp => ?_⟩, Ro_g (fun j => h 13 j (by omega)) g5, Ro_g (fun j => h 73 j (by omega)) g6, g7, g8, g9⟩
    · rw [h 63 33 (by omega)]; exact g41
    · rw [h 63 34 (by omega)]; exact g42
    · rw [h 63 35 (by omega)]; exact g43
    · rw [h 74 _ (by omega), h 74 _ (by omega), h 74 _ (by omega), h 74 _ (by omega), h 74 _ (by omega)]; exact g44 p hp
theorem TPE_g {tp : Nat → Nat} {n : Nat} {m m' : Mem} (h : ∀ x j, (x = 30 ∧ j = 1 ∨ x = 63 ∧ j = 6 ∨ x = 31 ∨ x = 66) → m'.1 x j = m.1 x j) (g : TPE tp n m) : TPE tp n m' := by
  obtain ⟨g1, g2, g3, g4⟩ := g
  refine ⟨g1, ?_, ?_, fun i hi => ?_⟩
  · rw [h 30 1 (by omega)]; exact g2
  · rw [h 63 6 (by omega)]; exact g3
  · rw [h 31 i (by omega), h 66 i (by omega)]; exact g4 i hi
theorem SHE_g {i : Nat} {m m' : Mem} (hi : i < 4) (h : ∀ x j, (55 ≤ x ∧ x ≤ 62 ∨ 75 ≤ x ∧ x ≤ 78) → m'.1 x j = m.1 x j) (g : SHE m i) : SHE m' i := by
  unfold SHE
  rw [h _ _ (by omega), h _ _ (by omega)]
  rcases g with g | ⟨so, sz, g1, g2, g3, g4, g5, g6, g7, g8⟩
  · exact .inl g
  · refine .inr ⟨so, sz, g1, g2, ?_, ?_, ?_, ?_, ?_, fun k hk => ?_⟩
    · rw [h _ _ (by omega)]; exact g3
    · rw [h _ _ (by omega)]; exact g4
    · rw [h _ _ (by omega)]; exact g5
    · rw [h _ _ (by omega)]; exact g6
    · rw [h _ _ (by omega)]; exact g7
    · rw [h _ _ (by omega), h _ _ (by omega)]; exact g8 k hk
theorem NTE_g {nt : Nat} {m m' : Mem} (h : ∀ x j, (x = 33 ∨ x = 63 ∧ j = 3) → m'.1 x j = m.1 x j) (g : NTE nt m) : NTE nt m' := by
  unfold NTE
  rw [h 33 2 (by omega), h 63 3 (by omega)]; exact g
theorem IW_s {cd : Nat → Cd} {r rk : Nat → Nat} {G H : Fo} {tp : Nat → Nat} {n nt : Nat} {m m' : Mem} (h : SF m m') (g : IW cd r rk G H tp n nt m) : IW cd r rk G H tp n nt m' := by
  obtain ⟨g1, g2, g3, g4, g5, g6, g7, g8⟩ := g
  have hh : ∀ x j, (x = 0 ∨ 5 ≤ x ∧ x ≤ 22 ∨ 30 ≤ x ∧ x ≤ 35 ∨ 50 ≤ x ∧ x ≤ 62 ∨ x = 63 ∧ (j ≤ 12 ∨ 33 ≤ j) ∨ 64 ≤ x ∧ x ≤ 70 ∨ 73 ≤ x) → m'.1 x j = m.1 x j := fun x j q => h x j (by omega) (by omega) (by omega) (by omega) (by omega) (by omega) (by omega) (by omega)
  exact ⟨RE_f (fun x j q => hh x j (by omega)) g1, RF_g (fun x j a b => hh x j (by omega)) g2, RR_f (fun x j q => hh x j (by omega)) g3, g4, KP_g (fun x j q => hh x j (by omega)) g5, TPE_g (fun x j q => hh x j (by omega)) g6, NTE_g (fun x j q => hh x j (by omega)) g7, fun i hi => SHE_g hi (fun x j q => hh x j (by omega)) (g8 i hi)⟩
/-- the reference's cells alone -/
def FRf (m m' : Mem) : Prop := ∀ x j, ¬ (63 ≤ x ∧ x ≤ 78) → m'.1 x j = m.1 x j ∧ m'.2 x j = m.2 x j
theorem FRf_r (m : Mem) : FRf m m := fun _ _ _ => ⟨rfl, rfl⟩
theorem FRf_t {a b d : Mem} (h : FRf a b) (g : FRf b d) : FRf a d := fun x j q => ⟨(g x j q).1.trans (h x j q).1, (g x j q).2.trans (h x j q).2⟩
theorem FRf_a {m m' : Mem} (h : FrA m m') : FRf m m' := fun x j q => ⟨h.1 x j (by omega), h.2 x j (by omega)⟩
theorem FRf_tt {m m' : Mem} (h : FrT m m') : FRf m m' := fun x j q => ⟨h.1 x j (by omega) (by omega), h.2 x j (by omega)⟩
theorem FRf_c {c : Nat} {m m' : Mem} (hc : 63 ≤ c ∧ c ≤ 78) (h : Fc c m m') : FRf m m' := fun x j q => ⟨h.2 x j (by omega), by rw [h.1]⟩
theorem FRf_1 {m : Mem} {c k : Nat} {v : Int32} (hc : 63 ≤ c ∧ c ≤ 78) : FRf m (pI m c k v) := fun x j q => ⟨rIn (by omega), rfl⟩
theorem CE_rf {cd : Nat → Cd} {r : Nat → Nat} {nt ve : Nat} {z : Nat → Nat} {m m' : Mem} (h : FRf m m') (g : CE cd r nt z ve m) : CE cd r nt z ve m' := CE_fo g (fun x j _ _ a _ _ => (h x j (by omega)).1) (fun x j a b => (h x j (by omega)).2)
def Iv (c nt : Nat) (z : Nat → Nat) (m : Mem) : Prop := ∃ cd r rk G H tp n ve, ve ≤ c ∧ CE cd r nt z ve m ∧ IW cd r rk G H tp n nt m
theorem Iv_q {c nt : Nat} {z : Nat → Nat} {cd : Nat → Cd} {r rk : Nat → Nat} {G H : Fo} {tp : Nat → Nat} {n ve : Nat} {m1 m2 : Mem} (hv : ve ≤ c) (h1 : CE cd r nt z ve m1) (h2 : IW cd r rk G H tp n nt m1) (h3 : SF m1 m2) (h4 : FRf m1 m2) : Iv (c + 1) nt z m2 := ⟨cd, r, rk, G, H, tp, n, ve, by omega, CE_rf h4 h1, IW_s h3 h2⟩
