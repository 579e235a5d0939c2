/-! bits of numbers -/
theorem md8 (a : Nat) : a - a / 8 * 8 = a % 8 := by omega
theorem leT {a b : Nat} (hb : b < 2147483648) (h : a ≤ b) : (nI a ≤ nI b) = True := eq_true ((nI_leI (by omega) hb).mpr h)
theorem leF {a b : Nat} (ha : a < 2147483648) (h : b < a) : (nI a ≤ nI b) = False := eq_false (fun q => by have := (nI_leI ha (by omega)).mp q; omega)
theorem ltT {a b : Nat} (hb : b < 2147483648) (h : a < b) : (nI a < nI b) = True := eq_true ((nI_ltI (by omega) hb).mpr h)
theorem ltF {a b : Nat} (ha : a < 2147483648) (h : b ≤ a) : (nI a < nI b) = False := eq_false (fun q => by have := (nI_ltI ha (by omega)).mp q; omega)
theorem eqT {a b : Nat} (h : a = b) : (nI a = nI b) = True := eq_true (by rw [h])
theorem eqF {a b : Nat} (ha : a < 2147483648) (hb : b < 2147483648) (h : a ≠ b) : (nI a = nI b) = False := eq_false (fun q => h ((nI_eq ha hb).mp q))
theorem inT {a n : Nat} (h : a < n) (ha : a < 2147483648) : inn (nI a) n = True := eq_true ((n_inn ha).mpr h)
theorem inF {a n : Nat} (h : n ≤ a) (ha : a < 2147483648) : inn (nI a) n = False := eq_false (fun q => by have := (n_inn ha).mp q; omega)
theorem L0 : (0 : Int32) = nI 0 := rfl
theorem L1 : (1 : Int32) = nI 1 := rfl
theorem L2 : (2 : Int32) = nI 2 := rfl
theorem L3 : (3 : Int32) = nI 3 := rfl
theorem L4 : (4 : Int32) = nI 4 := rfl
theorem L5 : (5 : Int32) = nI 5 := rfl
theorem L6 : (6 : Int32) = nI 6 := rfl
theorem L7 : (7 : Int32) = nI 7 := rfl
theorem L8 : (8 : Int32) = nI 8 := rfl
theorem L9 : (9 : Int32) = nI 9 := rfl
theorem L10 : (10 : Int32) = nI 10 := rfl
theorem L20 : (20 : Int32) = nI 20 := rfl
theorem L31 : (31 : Int32) = nI 31 := rfl
theorem L40 : (40 : Int32) = nI 40 := rfl
theorem L64 : (64 : Int32) = nI 64 := rfl
theorem L99 : (99 : Int32) = nI 99 := rfl
theorem L100 : (100 : Int32) = nI 100 := rfl
theorem L255 : (255 : Int32) = nI 255 := rfl
theorem L256 : (256 : Int32) = nI 256 := rfl
theorem L999 : (999 : Int32) = nI 999 := rfl
theorem L1000 : (1000 : Int32) = nI 1000 := rfl
theorem L99999 : (99999 : Int32) = nI 99999 := rfl
theorem and1 (x : Int32) : x &&& nI 1 = nI 0 ∨ x &&& nI 1 = nI 1 := by
  have h := pk_and x (m := nI 1) 1 rfl
  rw [h]
  rcases Nat.mod_two_eq_zero_or_one x.toBitVec.toNat with q | q
  · left; rw [show (2 : Nat) ^ 1 = 2 from rfl, q]
  · right; rw [show (2 : Nat) ^ 1 = 2 from rfl, q]
def bp (x : Int32) (t : Nat) : Bool := decide (¬ ((x >>> (nI t &&& nI 31)) &&& nI 1) = nI 0)
theorem bp_f {x : Int32} {t : Nat} : (((x >>> (nI t &&& nI 31)) &&& nI 1) = nI 0) = (bp x t = false) := by
  unfold bp; simp
theorem bp_t {x : Int32} {t : Nat} : (((x >>> (nI t &&& nI 31)) &&& nI 1) = nI 1) = (bp x t = true) := by
  unfold bp
  rcases and1 (x >>> (nI t &&& nI 31)) with h | h
  · rw [h]; decide
  · rw [h]; decide
theorem bp_s : ∀ t, t < 32 → ((nI t &&& nI 31).toBitVec.smod 32).toNat = t := by decide +kernel
theorem bp_l (x : Int32) {t : Nat} (ht : t < 32) : bp x t = x.toBitVec.getLsbD t := by
  unfold bp
  have e : (x >>> (nI t &&& nI 31)).toBitVec = x.toBitVec.sshiftRight t := by
    show x.toBitVec.sshiftRight' ((nI t &&& nI 31).toBitVec.smod 32) = _
    rw [BitVec.sshiftRight', bp_s t ht]
  have e2 : ((x >>> (nI t &&& nI 31)) &&& nI 1 = nI 0) ↔ x.toBitVec.getLsbD t = false := by
    rw [← Int32.toBitVec_inj]
    show ((x >>> (nI t &&& nI 31)).toBitVec &&& 1#32 = 0#32) ↔ _
    rw [e]
    constructor
    · intro h
      have := congrArg (fun b => b.getLsbD 0) h
      simp [BitVec.getElem_sshiftRight, ht] at this
      exact this
    · intro h
      ext i hi
      simp [BitVec.getElem_sshiftRight]
      intro h1 h2
      subst h2
      simp [ht] at h1
      simp_all
  rcases hb : x.toBitVec.getLsbD t with _ | _
  · simp [e2.mpr hb]
  · simp only [decide_eq_true_eq]; intro q; rw [e2.mp q] at hb; exact absurd hb (by decide)
theorem bp_one (x : Int32) {p : Nat} (hp : p < 32) : (x &&& (nI 1 <<< (nI p &&& nI 31)) = nI 0) = (bp x p = false) := by
  rw [bp_l x hp]
  apply propext
  rw [← Int32.toBitVec_inj]
  have e : (nI 1 <<< (nI p &&& nI 31)).toBitVec = 1#32 <<< p := by
    show 1#32 <<< ((nI p &&& nI 31).toBitVec.smod 32) = _
    rw [BitVec.shiftLeft_eq', bp_s p hp]
  show (x.toBitVec &&& (nI 1 <<< (nI p &&& nI 31)).toBitVec = 0#32) ↔ _
  rw [e]
  constructor
  · intro h
    have := congrArg (fun b => b.getLsbD p) h
    simpa [hp] using this
  · intro h
    ext i hi
    simp
    intro h1 h2 h3
    have : i = p := by omega
    subst this
    simp_all
theorem bp_or (x y : Int32) {t : Nat} (h : t < 32) : bp (x ||| y) t = (bp x t || bp y t) := by
  rw [bp_l _ h, bp_l _ h, bp_l _ h]
  show (x.toBitVec ||| y.toBitVec).getLsbD t = _
  simp
theorem bp_and (x y : Int32) {t : Nat} (h : t < 32) : bp (x &&& y) t = (bp x t && bp y t) := by
  rw [bp_l _ h, bp_l _ h, bp_l _ h]
  show (x.toBitVec &&& y.toBitVec).getLsbD t = _
  simp
theorem bp_xor (x y : Int32) {t : Nat} (h : t < 32) : bp (x ^^^ y) t = (bp x t ^^ bp y t) := by
  rw [bp_l _ h, bp_l _ h, bp_l _ h]
  show (x.toBitVec ^^^ y.toBitVec).getLsbD t = _
  simp
theorem bp_1 : ∀ c, c < 24 → ∀ t, t < 24 → bp (nI 1 <<< (nI c &&& nI 31)) t = decide (c = t) := by decide +kernel
theorem bp_0 (t : Nat) : bp (nI 0) t = false := by
  unfold bp
  rw [show nI 0 >>> (nI t &&& nI 31) = nI 0 from Int32.zero_shiftRight]
  decide
theorem bp_255 : ∀ t, t < 8 → bp (nI 255) t = true := by decide +kernel
theorem bp_n1 : ∀ t, t < 24 → bp (-1) t = true := by decide +kernel
theorem bp_neg (x : Int32) {t : Nat} (h : t < 24) : bp (x ^^^ (-1)) t = !bp x t := by rw [bp_xor _ _ (by omega), bp_n1 t h]; simp
/-! HOW FAR: roads in rows -/
def Rw (m : Mem) (c B : Nat) (D : Nat → Nat) : Prop := ∀ t, t < 8 → m.1 c (B + t) = nI (D t)
def Ro (m : Mem) (c : Nat) (r : Nat → Nat) : Prop := ∀ k, k < 64 → m.1 c k = nI (r k)
abbrev er (r : Nat → Nat) : Nat → Nat → Nat := fun w t => r (8 * w + t)
def Fl (e : Nat → Nat → Nat) (ok : Nat → Bool) (D0 : Nat → Nat) (v : Int32) (k : Nat) : Prop := (v = nI 0 ∧ ∀ u, u < 8 → rln e ok D0 k u = D0 u) ∨ (v = nI 1 ∧ ∃ u, u < 8 ∧ rln e ok D0 k u < D0 u)
def FrB (c B : Nat) (m m' : Mem) : Prop := m'.2 = m.2 ∧ ∀ x j, ¬ (x = c ∧ B ≤ j ∧ j < B + 8) → m'.1 x j = m.1 x j
theorem FrB_r {c B : Nat} (m : Mem) : FrB c B m m := ⟨rfl, fun _ _ _ => rfl⟩
theorem FrB_t {c B : Nat} {a b d : Mem} (h : FrB c B a b) (g : FrB c B b d) : FrB c B a d := ⟨g.1.trans h.1, fun x j q => (g.2 x j q).trans (h.2 x j q)⟩
theorem FrB_ro {c B : Nat} {m m' : Mem} {r : Nat → Nat} {q : Nat} (hq : q ≠ c) (h : FrB c B m m') (g : Ro m q r) : Ro m' q r := fun k hk => by rw [h.2 q k (fun z => hq z.1)]; exact g k hk
theorem rl_no {e : Nat → Nat → Nat} {ok : Nat → Bool} {D : Nat → Nat} {k : Nat} (h : ¬ (e (k / 8) (k % 8) ≠ 0 ∧ ok (k % 8) = true ∧ D (k / 8) < 999 ∧ D (k / 8) + e (k / 8) (k % 8) < D (k % 8))) : rl e ok D k = D := by
  funext u
  unfold rl
  rw [if_neg (fun q => h q.1)]
theorem rl_yes {e : Nat → Nat → Nat} {ok : Nat → Bool} {D : Nat → Nat} {k : Nat} (h : e (k / 8) (k % 8) ≠ 0 ∧ ok (k % 8) = true ∧ D (k / 8) < 999 ∧ D (k / 8) + e (k / 8) (k % 8) < D (k % 8)) (u : Nat) : rl e ok D k u = if u = k % 8 then D (k / 8) + e (k / 8) (k % 8) else D u := by
  unfold rl
  by_cases q : u = k % 8
  · rw [if_pos ⟨h, q⟩, if_pos q]
  · rw [if_neg (fun z => q z.2), if_neg q]
/-- the road's end comes nearer -/
theorem Rw_yes {e : Nat → Nat → Nat} {ok : Nat → Bool} {D : Nat → Nat} {w t c B : Nat} {m : Mem} (hw : w < 8) (ht : t < 8) (hm : Rw m c B D) (h : e w t ≠ 0 ∧ ok t = true ∧ D w < 999 ∧ D w + e w t < D t) : Rw (pI m c (B + t) (nI (D w + e w t))) c B (rl e ok D (8 * w + t)) := by
  intro u hu
  have e1 : (8 * w + t) / 8 = w := by omega
  have e2 : (8 * w + t) % 8 = t := by omega
  rw [rI, rl_yes (by rw [e1, e2]; exact h) u, e1, e2]
  by_cases q : u = t
  · subst q; rw [if_pos ⟨rfl, rfl⟩, if_pos rfl]
  · rw [if_neg (by rintro ⟨_, z⟩; omega), if_neg q]; exact hm u hu
theorem Fl_no {e : Nat → Nat → Nat} {ok : Nat → Bool} {D0 : Nat → Nat} {v : Int32} {k : Nat} (h : Fl e ok D0 v k) (g : rln e ok D0 (k + 1) = rln e ok D0 k) : Fl e ok D0 v (k + 1) := by
  unfold Fl; rw [g]; exact h
theorem Fl_yes {e : Nat → Nat → Nat} {ok : Nat → Bool} {D0 : Nat → Nat} {w t : Nat} (hw : w < 8) (ht : t < 8) (h : e w t ≠ 0 ∧ ok t = true ∧ rln e ok D0 (8 * w + t) w < 999 ∧ rln e ok D0 (8 * w + t) w + e w t < rln e ok D0 (8 * w + t) t) : Fl e ok D0 (nI 1) (8 * w + t + 1) := by
  right
  refine ⟨rfl, t, ht, ?_⟩
  have e1 : (8 * w + t) / 8 = w := by omega
  have e2 : (8 * w + t) % 8 = t := by omega
  rw [rln, rl_yes (by rw [e1, e2]; exact h) t, e1, e2, if_pos rfl]
  have := rln_mono (e := e) (ok := ok) D0 t (8 * w + t) 0 (by omega)
  have e3 : rln e ok D0 0 t = D0 t := rfl
  omega
theorem FrB_1 {c B t : Nat} (ht : t < 8) (m : Mem) (v : Int32) : FrB c B m (pI m c (B + t) v) := ⟨rfl, fun x j q => by rw [rI, if_neg]; rintro ⟨a, b⟩; exact q ⟨a, by omega, by omega⟩⟩
theorem rln_d {e : Nat → Nat → Nat} {ok : Nat → Bool} {D0 : Nat → Nat} (hD : ∀ u, u < 8 → D0 u ≤ 999) (k : Nat) {u : Nat} (hu : u < 8) : rln e ok D0 k u ≤ 999 := by
  have := rln_mono (e := e) (ok := ok) D0 u k 0 (by omega)
  have e3 : rln e ok D0 0 u = D0 u := rfl
  have := hD u hu
  omega
/-- there is a least -/
theorem exD_l {e : Nat → Nat → Nat} {ok : Nat → Bool} {x : Nat} : ∀ (n : Nat) (D : Nat → Nat), AtD e ok x D → D 0 + D 1 + D 2 + D 3 + D 4 + D 5 + D 6 + D 7 < n → ∃ D', IsD e ok x D' := by
  intro n
  induction n with
  | zero => intro D _ h; omega
  | succ n ih =>
    intro D hD hs
    by_cases h : ∀ u, u < 8 → rln e ok D 64 u = D u
    · exact ⟨D, hD, rln_cl h⟩
    · refine ih (rln e ok D 64) (rln_at hD 64 (by decide)) ?_
      have h0 := rln_mono (e := e) (ok := ok) D 0 64 0 (by decide)
      have h1 := rln_mono (e := e) (ok := ok) D 1 64 0 (by decide)
      have h2 := rln_mono (e := e) (ok := ok) D 2 64 0 (by decide)
      have h3 := rln_mono (e := e) (ok := ok) D 3 64 0 (by decide)
      have h4 := rln_mono (e := e) (ok := ok) D 4 64 0 (by decide)
      have h5 := rln_mono (e := e) (ok := ok) D 5 64 0 (by decide)
      have h6 := rln_mono (e := e) (ok := ok) D 6 64 0 (by decide)
      have h7 := rln_mono (e := e) (ok := ok) D 7 64 0 (by decide)
      rw [show rln e ok D 0 = D from rfl] at h0 h1 h2 h3 h4 h5 h6 h7
      rcases Nat.lt_or_ge (rln e ok D 64 0 + rln e ok D 64 1 + rln e ok D 64 2 + rln e ok D 64 3 + rln e ok D 64 4 + rln e ok D 64 5 + rln e ok D 64 6 + rln e ok D 64 7) n with q | q
      · exact q
      · exfalso; apply h
        intro u hu
        rcases (show u = 0 ∨ u = 1 ∨ u = 2 ∨ u = 3 ∨ u = 4 ∨ u = 5 ∨ u = 6 ∨ u = 7 by omega) with rfl | rfl | rfl | rfl | rfl | rfl | rfl | rfl <;> omega
def D00 (x : Nat) : Nat → Nat := fun t => if t = x then 0 else 999
theorem D00_at (e : Nat → Nat → Nat) (ok : Nat → Bool) (x : Nat) : AtD e ok x (D00 x) := by
  refine ⟨if_pos rfl, fun t _ => ?_⟩
  unfold D00
  by_cases h : t = x
  · rw [if_pos h]; exact ⟨by omega, fun _ => ⟨0, h, rfl⟩⟩
  · rw [if_neg h]; exact ⟨by omega, fun q => by omega⟩
theorem exD (e : Nat → Nat → Nat) (ok : Nat → Bool) (x : Nat) : ∃ D, IsD e ok x D := exD_l _ (D00 x) (D00_at e ok x) (Nat.lt_succ_self _)
