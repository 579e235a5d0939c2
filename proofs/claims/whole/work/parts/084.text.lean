theorem g_cong {Γ : Ga} {b : Nat} {σ τ : St} {cells slots pc : Nat} {lv : List (Nat × Value)} {st : List Value} {μ : Mem} (h : ∀ G : GG, wW G σ μ = wW G τ μ) (k : Go Γ b τ cells slots pc lv st μ) : Go Γ b σ cells slots pc lv st μ := by
  obtain ⟨p, l, e, R, s, m, args, below, meth, c, G, n9, Q⟩ := Γ
  intro H locs ls h1 h2 h3 h4
  rw [h G] at h1 h2
  exact k H locs ls h1 h2 h3 h4
theorem wE_eq {G : GG} {σ τ : St} {μ : Mem} {a : Nat} (hr : kd a < 10 → ∀ k, k < nf (kd a) → ft (kd a) k = 2 → σ.2.2.1 a k = τ.2.2.1 a k) (hz : ¬ kd a < 10 → σ.2.2.2 a = τ.2.2.2 a) (hq : ¬ kd a < 12 → σ.2.2.1 a = τ.2.2.1 a) : wE G σ μ a = wE G τ μ a := by
  by_cases h1 : kd a < 10
  · rw [wE_obj rfl h1, wE_obj rfl h1]
    congr 2
    apply List.map_congr_left
    intro k hk
    have hk := List.mem_range.mp hk
    simp only [fv]
    split
    · rfl
    · split
      · rfl
      · rename_i g1 g2
        have ht : ft (kd a) k = 2 := by
          have : ∀ c, c < 10 → ∀ k, k < nf c → ft c k = 0 ∨ ft c k = 1 ∨ ft c k = 2 := by decide +kernel
          rcases this _ h1 k hk with h | h | h
          · exact absurd h g1
          · exact absurd h g2
          · exact h
        rw [hr h1 k hk ht]
  · by_cases h2 : kd a < 12
    · rw [wE_int rfl h1 h2, wE_int rfl h1 h2, hz h1]
    · rw [wE_ref rfl h2, wE_ref rfl h2, hz h1, hq h2]
theorem wW_eq {G : GG} {σ τ : St} {μ : Mem} (hn : σ.2.1 = τ.2.1) (ha : ∀ a, a < σ.2.1 → σ.1 a = τ.1 a) (he : ∀ a, a < σ.2.1 → wE G σ μ a = wE G τ μ a) : wW G σ μ = wW G τ μ := by
  simp only [wW]
  rw [← hn]
  apply List.map_congr_left
  intro a h
  have h := List.mem_range.mp h
  rw [ha a h, he a h]
theorem rtL_lt : ∀ a, a < 79 → ∀ k, k < 40 → ∀ i, (rtL.getD a []).getD k none = some i → i < 79 := by
  have h : ∀ a, a < 79 → ∀ k, k < 40 → ((rtL.getD a []).getD k none).all (fun i => decide (i < 79)) = true := by decide +kernel
  intro a ha k hk i hi
  have := h a ha k hk
  rw [hi] at this
  exact of_decide_eq_true this
theorem rtL_short : ∀ a, a < 79 → (rtL.getD a []).length ≤ 40 := by decide +kernel
theorem rt_lt {nt a k i : Nat} (ha : a < 79 + 3 * nt) (h : rt nt a k = some i) : i < 79 + 3 * nt := by
  unfold rt at h
  by_cases h34 : a = 34
  · rw [if_pos h34] at h
    by_cases hk : k ≤ nt
    · rw [if_pos hk] at h
      have := Option.some.inj h
      rw [← this]
      exact T_lt0 ⟨k, hk, rfl⟩
    · rw [if_neg hk] at h; cases h
  · rw [if_neg h34] at h
    by_cases h79 : a < 79
    · rw [if_pos h79] at h
      have hk : k < 40 := by
        rcases Nat.lt_or_ge k 40 with q | q
        · exact q
        · rw [List.getD, List.getElem?_eq_none (Nat.le_trans (rtL_short a h79) q)] at h; cases h
      have := rtL_lt a h79 k hk i h
      omega
    · rw [if_neg h79] at h
      by_cases hm : (a - 79) % 3 = 0
      · rw [if_pos hm] at h
        by_cases k0 : k = 0
        · rw [if_pos k0] at h; have := Option.some.inj h; omega
        · rw [if_neg k0] at h
          by_cases k1 : k = 1
          · rw [if_pos k1] at h; have := Option.some.inj h; omega
          · rw [if_neg k1] at h; cases h
      · rw [if_neg hm] at h; cases h
theorem rt_nt {nt a k : Nat} (h : a ≠ 34) : rt (nt + 1) a k = rt nt a k := by
  unfold rt; rw [if_neg h, if_neg h]
theorem pR_rs {σ : St} {a k : Nat} {v : Option Nat} : (pR σ a k v).2.2.1 a = va_up (σ.2.2.1 a) k v := va_up_self _ _ _
theorem pR_rn {σ : St} {a k c : Nat} {v : Option Nat} (h : c ≠ a) : (pR σ a k v).2.2.1 c = σ.2.2.1 c := va_up_ne _ _ h
/-- the picture behind a TEXT that came -/
theorem text_world {ad : Nat → Nat} {nt n q1 q2 q3 : Nat} {z : Nat → Nat} {μ : Mem} (G : GG) :
    wW G (pR (pR (pR (nS (nS (nS (sg ad nt z) q1 0) q2 n) q3 3) (79 + 3 * nt) 1 (some q3)) (79 + 3 * nt) 0 (some q2)) 34 (nt + 1) (some q1)) μ
    = wW G (sg (va_up (va_up (va_up ad (79 + 3 * nt) q1) (79 + 3 * nt + 1) q2) (79 + 3 * nt + 2) q3) (nt + 1) (va_up z (nt + 1) n)) μ := by
  have kk := kd_t (k := nt + 1) (Nat.succ_pos _)
  have e76 : 76 + 3 * (nt + 1) = 79 + 3 * nt := by omega
  rw [e76] at kk
  obtain ⟨kk0, kk1, kk2⟩ := kk
  have adl : ∀ i, i < 79 + 3 * nt → va_up (va_up (va_up ad (79 + 3 * nt) q1) (79 + 3 * nt + 1) q2) (79 + 3 * nt + 2) q3 i = ad i := by
    intro i hi
    rw [va_up_ne _ _ (by omega), va_up_ne _ _ (by omega), va_up_ne _ _ (by omega)]
  have ad0 : va_up (va_up (va_up ad (79 + 3 * nt) q1) (79 + 3 * nt + 1) q2) (79 + 3 * nt + 2) q3 (79 + 3 * nt) = q1 := by
    rw [va_up_ne _ _ (by omega), va_up_ne _ _ (by omega), va_up_self]
  have ad1 : va_up (va_up (va_up ad (79 + 3 * nt) q1) (79 + 3 * nt + 1) q2) (79 + 3 * nt + 2) q3 (79 + 3 * nt + 1) = q2 := by
    rw [va_up_ne _ _ (by omega), va_up_self]
  have ad2 : va_up (va_up (va_up ad (79 + 3 * nt) q1) (79 + 3 * nt + 1) q2) (79 + 3 * nt + 2) q3 (79 + 3 * nt + 2) = q3 := va_up_self _ _ _
  generalize hA : va_up (va_up (va_up ad (79 + 3 * nt) q1) (79 + 3 * nt + 1) q2) (79 + 3 * nt + 2) q3 = A at adl ad0 ad1 ad2 ⊢
  have adj : ∀ (a k : Nat), a < 79 + 3 * nt → (rt nt a k).map ad = (rt nt a k).map A := by
    intro a k ha
    cases h : rt nt a k with
    | none => rfl
    | some i => rw [Option.map_some, Option.map_some, adl i (rt_lt ha h)]
  -- references of an old cell
  have ro : ∀ a, a < 79 + 3 * nt → a ≠ 34 → ∀ k, (pR (pR (pR (nS (nS (nS (sg ad nt z) q1 0) q2 n) q3 3) (79 + 3 * nt) 1 (some q3)) (79 + 3 * nt) 0 (some q2)) 34 (nt + 1) (some q1)).2.2.1 a k = (rt nt a k).map ad := by
    intro a ha h34 k
    show (va_up (α := Nat → Option Nat) (va_up (va_up (va_up (va_up (va_up _ (79 + 3 * nt) _) (79 + 3 * nt + 1) _) (79 + 3 * nt + 1 + 1) _) (79 + 3 * nt) _) (79 + 3 * nt) _) 34 _ a) k = _
    rw [va_up_ne _ _ h34, va_up_ne _ _ (by omega), va_up_ne _ _ (by omega), va_up_ne _ _ (by omega), va_up_ne _ _ (by omega), va_up_ne _ _ (by omega)]
  refine wW_eq ?_ ?_ ?_
  · show 79 + 3 * nt + 1 + 1 + 1 = 79 + 3 * (nt + 1); omega
  · intro a _
    show va_up (va_up (va_up ad (79 + 3 * nt) q1) (79 + 3 * nt + 1) q2) (79 + 3 * nt + 2) q3 a = A a
    rw [hA]
  · intro a ha
    have ha : a < 79 + 3 * nt + 1 + 1 + 1 := ha
    refine wE_eq (fun h10 k hk ht => ?_) (fun h10 => ?_) (fun h12 => ?_)
    · by_cases hold : a < 79 + 3 * nt
      · have h34 : a ≠ 34 := by rintro rfl; exact absurd h10 (by decide)
        rw [ro a hold h34 k]
        show _ = (rt (nt + 1) a k).map A
        rw [rt_nt h34]; exact adj a k hold
      · have hN : a = 79 + 3 * nt := by
          rcases (show a = 79 + 3 * nt ∨ a = 79 + 3 * nt + 1 ∨ a = 79 + 3 * nt + 2 by omega) with h | h | h
          · exact h
          · rw [h, kk1] at h10; exact absurd h10 (by decide)
          · rw [h, kk2] at h10; exact absurd h10 (by decide)
        subst hN
        rw [kk0] at hk ht
        have e : rt (nt + 1) (79 + 3 * nt) k = if k = 0 then some (79 + 3 * nt + 1) else if k = 1 then some (79 + 3 * nt + 2) else none := by
          unfold rt; rw [if_neg (by omega), if_neg (by omega), if_pos (by omega)]
        show va_up (α := Nat → Option Nat) (va_up (va_up (nS (nS (nS (sg ad nt z) q1 0) q2 n) q3 3).2.2.1 (79 + 3 * nt) (va_up ((nS (nS (nS (sg ad nt z) q1 0) q2 n) q3 3).2.2.1 (79 + 3 * nt)) 1 (some q3))) (79 + 3 * nt) (va_up (va_up (nS (nS (nS (sg ad nt z) q1 0) q2 n) q3 3).2.2.1 (79 + 3 * nt) (va_up ((nS (nS (nS (sg ad nt z) q1 0) q2 n) q3 3).2.2.1 (79 + 3 * nt)) 1 (some q3)) (79 + 3 * nt)) 0 (some q2))) 34 _ (79 + 3 * nt) k = (rt (nt + 1) (79 + 3 * nt) k).map A
        rw [va_up_ne _ _ (by omega), va_up_self, va_up_self, e]
        rcases (show k = 0 ∨ k = 1 by
          have : ∀ k, k < nf 6 → ft 6 k = 2 → k = 0 ∨ k = 1 := by decide
          exact this k hk ht) with rfl | rfl
        · rw [va_up_self, if_pos rfl, Option.map_some, ad1]
        · rw [va_up_ne _ _ (by decide), va_up_self, if_neg (by decide), if_pos rfl, Option.map_some, ad2]
    · show va_up (va_up (va_up (ln z) (79 + 3 * nt) 0) (79 + 3 * nt + 1) n) (79 + 3 * nt + 1 + 1) 3 a = ln (va_up z (nt + 1) n) a
      by_cases hold : a < 79 + 3 * nt
      · rw [va_up_ne _ _ (by omega), va_up_ne _ _ (by omega), va_up_ne _ _ (by omega)]
        unfold ln
        by_cases h53 : a = 53
        · rw [if_pos h53, if_pos h53, va_up_ne _ _ (by omega)]
        · rw [if_neg h53, if_neg h53]
          by_cases h79 : a < 79
          · rw [if_pos h79, if_pos h79]
          · rw [if_neg h79, if_neg h79]
            by_cases hm : (a - 79) % 3 = 1
            · rw [if_pos hm, if_pos hm, va_up_ne _ _ (by omega)]
            · rw [if_neg hm, if_neg hm]
      · rcases (show a = 79 + 3 * nt ∨ a = 79 + 3 * nt + 1 ∨ a = 79 + 3 * nt + 2 by omega) with rfl | rfl | rfl
        · rw [kk0] at h10; exact absurd (by decide) h10
        · rw [va_up_ne _ _ (by omega), va_up_self]
          unfold ln
          rw [if_neg (by omega), if_neg (by omega), if_pos (by omega), show (79 + 3 * nt + 1 - 79) / 3 + 1 = nt + 1 by omega, va_up_self]
        · rw [va_up_self]
          unfold ln
          rw [if_neg (by omega), if_neg (by omega), if_neg (by omega)]
    · have hold : a < 79 + 3 * nt := by
        rcases Nat.lt_or_ge a (79 + 3 * nt) with h | h
        · exact h
        · rcases (show a = 79 + 3 * nt ∨ a = 79 + 3 * nt + 1 ∨ a = 79 + 3 * nt + 2 by omega) with h | h | h
          · rw [h, kk0] at h12; exact absurd (by decide) h12
          · rw [h, kk1] at h12; exact absurd (by decide) h12
          · rw [h, kk2] at h12; exact absurd (by decide) h12
      funext k
      by_cases h34 : a = 34
      · subst h34
        rw [pR_rs, pR_rn (show 34 ≠ 79 + 3 * nt by omega), pR_rn (show 34 ≠ 79 + 3 * nt by omega)]
        show _ = (rt (nt + 1) 34 k).map A
        have eo : (nS (nS (nS (sg ad nt z) q1 0) q2 n) q3 3).2.2.1 34 = fun k => (rt nt 34 k).map ad := by
          show va_up (va_up (va_up _ (79 + 3 * nt) _) (79 + 3 * nt + 1) _) (79 + 3 * nt + 1 + 1) _ 34 = _
          rw [va_up_ne _ _ (by omega), va_up_ne _ _ (by omega), va_up_ne _ _ (by omega)]
        rw [eo]
        by_cases hk : k = nt + 1
        · subst hk
          rw [va_up_self]
          unfold rt
          rw [if_pos rfl, if_pos (Nat.le_refl _), Option.map_some, tid_p (Nat.succ_pos _), e76, ad0]
        · rw [va_up_ne _ _ hk]
          show (rt nt 34 k).map ad = _
          rw [adj 34 k (by omega)]
          unfold rt
          rw [if_pos rfl, if_pos rfl]
          by_cases h1 : k ≤ nt
          · rw [if_pos h1, if_pos (by omega)]
          · rw [if_neg h1, if_neg (by omega)]
      · rw [ro a hold h34 k]
        show _ = (rt (nt + 1) a k).map A
        rw [rt_nt h34]; exact adj a k hold
