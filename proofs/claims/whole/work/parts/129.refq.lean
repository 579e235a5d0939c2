section
variable {b : Nat → Nat} {S B : Nat} {nm : Nat → Int32}
theorem RS_worth {m : Mem} {p d s : Nat} (h : RS b S B nm m p d) (hs : isSg s = true) (hk : tK b p = s) : m.2 63 24 = lN s := by
  obtain ⟨h1, h2, h3, h4, h5⟩ := (kAt_sg hs).mp hk
  rw [h.2.1.2.2.2.2 h1 h2 h3 h4, h5]
theorem jo5 (x y : Int32) : jo (nI 5) x y = x + y := rfl
theorem jo6 (x y : Int32) : jo (nI 6) x y = x - y := rfl
theorem jo3 (x y : Int32) : jo (nI 3) x y = if y ≤ x then 0 else 1 := rfl
theorem jo4 (x y : Int32) : jo (nI 4) x y = if x = y then 1 else 0 := rfl
theorem jo0 (x y : Int32) : jo (nI 0) x y = if x = 0 then (if y = 0 then 0 else 1) else 1 := rfl
theorem jo1 (x y : Int32) : jo (nI 1) x y = if x = 0 then 0 else if y = 0 then 0 else 1 := rfl
theorem bvbi {X : Option Mem} {A : Mem → Option (Int32 × Mem)} {f g : Int32 → Mem → Option (Int32 × Mem)} (h : ∀ r m, f r m = g r m) : (bv X fun m1 => bi (A m1) f) = bv X fun m1 => bi (A m1) g := by
  have : f = g := by funext r m; exact h r m
  rw [this]
theorem LP_S (hB : By b S) {T : Mem → Option (Int32 × Mem)} {d : Nat} (hA : SP b S B nm T 4 d) : LpR b S B nm (gS T) 3 d := by
  intro n
  induction n with
  | zero => intro p m acc v k hp hn; omega
  | succ n ih =>
    intro p m acc v k hp hn hk h hv
    obtain ⟨k, rfl⟩ : ∃ k', k = k' + 1 := ⟨k - 1, by omega⟩
    have hbad : ∀ (m : Mem) (f : Nat) (v : Int32), RB m f → ∃ v2, gS T k v m = some (v2, m) := by
      intro m f v hb
      cases k with
      | zero => omega
      | succ k => exact ⟨v, by rw [gS, RB_sign hb, bi_s, if_pos rfl, RB_sign hb, bi_s, if_pos rfl]⟩
    rw [gS, show (43 : Int32) = nI 43 from rfl, show (45 : Int32) = nI 45 from rfl, RS_sign h (by decide), bi_s]
    by_cases k43 : tK b p = 43
    · rw [if_pos k43, if_neg (by decide)]
      unfold gS23 gS39
      rw [if_pos (show lg_cmp (m.2 63 24) 43 = 0 by rw [cmp0, RS_worth h (by decide) k43]; rfl)]
      have hj : jn 3 (tK b p) = some 5 := by rw [k43]; rfl
      rw [bvbi (g := fun r m2 => gS T k (jo (nI 5) v r) m2) (fun r m => by rw [if_neg (by decide), jo5])]
      exact LpR_step hB (gS T k) (by decide) (by decide) hA hp hn hk h hv hj (fun p' m' acc' v' h1 h2 h3 h4 h5 => ih p' m' acc' v' k h1 h2 h3 h4 h5) hbad
    · rw [if_neg k43, if_pos rfl, RS_sign h (by decide), bi_s]
      by_cases k45 : tK b p = 45
      · rw [if_pos k45, if_neg (by decide)]
        unfold gS23 gS39
        rw [if_neg (show ¬ lg_cmp (m.2 63 24) 43 = 0 by rw [cmp0, RS_worth h (by decide) k45]; decide)]
        have hj : jn 3 (tK b p) = some 6 := by rw [k45]; rfl
        rw [bvbi (g := fun r m2 => gS T k (jo (nI 6) v r) m2) (fun r m => by rw [if_pos rfl, jo6])]
        exact LpR_step hB (gS T k) (by decide) (by decide) hA hp hn hk h hv hj (fun p' m' acc' v' h1 h2 h3 h4 h5 => ih p' m' acc' v' k h1 h2 h3 h4 h5) hbad
      · rw [if_neg k45, if_pos rfl]
        exact ⟨_, _, rfl, LpR_stop (by decide) h hv (by unfold jn; simp [k43, k45])⟩
theorem RS_key {i : Nat} (hB : By b S) {m : Mem} {p d : Nat} (hp : p ≤ S) (h : RS b S B nm m p d) : X10_isWord (111 : Int32) (114 : Int32) (0 : Int32) (0 : Int32) (0 : Int32) (0 : Int32) (0 : Int32) (0 : Int32) m = some (if tK b p = 13 then 1 else 0, m) ∧ X10_isWord (97 : Int32) (110 : Int32) (100 : Int32) (0 : Int32) (0 : Int32) (0 : Int32) (0 : Int32) (0 : Int32) m = some (if tK b p = 14 then 1 else 0, m) ∧ X10_isWord (110 : Int32) (111 : Int32) (116 : Int32) (0 : Int32) (0 : Int32) (0 : Int32) (0 : Int32) (0 : Int32) m = some (if tK b p = 15 then 1 else 0, m) := by
  obtain ⟨_, ha⟩ := tkA_s hB hp
  exact ⟨isKey_3 hB h.1 ha h.2.1 h.2.2.2.1, isKey_4 hB h.1 ha h.2.1 h.2.2.2.1, isKey_5 hB h.1 ha h.2.1 h.2.2.2.1⟩
theorem LP_B (hB : By b S) {N : Mem → Option (Int32 × Mem)} {d : Nat} (hA : SP b S B nm N 2 d) : LpR b S B nm (gB N) 1 d := by
  intro n
  induction n with
  | zero => intro p m acc v k hp hn; omega
  | succ n ih =>
    intro p m acc v k hp hn hk h hv
    obtain ⟨k, rfl⟩ : ∃ k', k = k' + 1 := ⟨k - 1, by omega⟩
    rw [gB, (RS_key (i := 0) hB hp h).2.1, bi_s]
    by_cases k14 : tK b p = 14
    · rw [if_pos k14, if_neg (by decide)]
      have hj : jn 1 (tK b p) = some 1 := by rw [k14]; rfl
      rw [bvbi (g := fun r m2 => gB N k (jo (nI 1) v r) m2) (fun r m => by
        rw [jo1]
        by_cases h1 : v = 0
        · rw [if_pos h1, if_pos h1]
        · rw [if_neg h1, if_neg h1]
          by_cases h2 : r = 0
          · rw [if_pos h2, if_pos h2]
          · rw [if_neg h2, if_neg h2])]
      refine LpR_step hB (gB N k) (by decide) (by decide) hA hp hn hk h hv hj (fun p' m' acc' v' h1 h2 h3 h4 h5 => ih p' m' acc' v' k h1 h2 h3 h4 h5) ?_
      intro m f v hb
      cases k with
      | zero => omega
      | succ k => exact ⟨v, by rw [gB, RB_word hb, bi_s, if_pos rfl]⟩
    · rw [if_neg k14, if_pos rfl]
      exact ⟨_, _, rfl, LpR_stop (by decide) h hv (by unfold jn; simp [k14])⟩
theorem LP_E (hB : By b S) {N : Mem → Option (Int32 × Mem)} {d : Nat} (hA : SP b S B nm N 1 d) : LpR b S B nm (gE N) 0 d := by
  intro n
  induction n with
  | zero => intro p m acc v k hp hn; omega
  | succ n ih =>
    intro p m acc v k hp hn hk h hv
    obtain ⟨k, rfl⟩ : ∃ k', k = k' + 1 := ⟨k - 1, by omega⟩
    rw [gE, (RS_key (i := 0) hB hp h).1, bi_s]
    by_cases k13 : tK b p = 13
    · rw [if_pos k13, if_neg (by decide)]
      have hj : jn 0 (tK b p) = some 0 := by rw [k13]; rfl
      rw [bvbi (g := fun r m2 => gE N k (jo (nI 0) v r) m2) (fun r m => by
        rw [jo0]
        by_cases h1 : v = 0
        · rw [if_pos h1, if_pos h1]
          by_cases h2 : r = 0
          · rw [if_pos h2, if_pos h2]
          · rw [if_neg h2, if_neg h2]
        · rw [if_neg h1, if_neg h1])]
      refine LpR_step hB (gE N k) (by decide) (by decide) hA hp hn hk h hv hj (fun p' m' acc' v' h1 h2 h3 h4 h5 => ih p' m' acc' v' k h1 h2 h3 h4 h5) ?_
      intro m f v hb
      cases k with
      | zero => omega
      | succ k => exact ⟨v, by rw [gE, RB_word hb, bi_s, if_pos rfl]⟩
    · rw [if_neg k13, if_pos rfl]
      exact ⟨_, _, rfl, LpR_stop (by decide) h hv (by unfold jn; simp [k13])⟩
theorem gNs_s (hB : By b S) {T : Mem → Option (Int32 × Mem)} {d n p : Nat} {m : Mem} (hA : SP b S B nm T 3 d) (hp : p ≤ S) (hn : 10 * (S + 1 - p) + 3 < n + 1) (h : RS b S B nm m p d) (h15 : tK b p ≠ 15) : ∃ v m', gNs T m = some (v, m') ∧ PR b S B nm m m' d (nd 2 d) v (ps b (n + 1) 2 d [] p) := by
  rw [ps, if_neg (by decide), if_pos (by decide), if_neg (fun q => h15 q.2)]
  unfold gNs
  obtain ⟨v, m1, e1, e2⟩ := hA n p m hp (by omega) h
  rw [e1, bi_s]
  rcases hr : ps b n (2 + 1) d [] p with e | ⟨c, q⟩
  · rw [hr] at e2
    rw [RB_sign e2.2, bi_s, if_pos rfl, RB_sign e2.2, bi_s, if_pos rfl]
    exact ⟨_, _, rfl, PR_l e2.1 e2.2⟩
  · rw [hr] at e2
    rw [bR_r]
    obtain ⟨p1, p2, p3, p4⟩ := ps_pr hB _ _ _ _ _ _ _ hp hr
    have p5 := p2 (by decide)
    obtain ⟨n, rfl⟩ : ∃ n', n = n' + 1 := ⟨n - 1, by omega⟩
    rw [show (60 : Int32) = nI 60 from rfl, show (61 : Int32) = nI 61 from rfl, RS_sign e2.2.1 (by decide), bi_s]
    have hN := tN_le hB p1
    have hnd : nd 2 d = nd 3 d + 1 := by unfold nd; omega
    have step : ∀ (o : Nat), jn 2 (tK b q) = some o → ∃ v' m', (bv (X10_next m1) fun m2 => bi (T m2) fun r m3 => some (jo (nI o) v r, m3)) = some (v', m') ∧ PR b S B nm m m' d (nd 2 d) v' (ps b (n + 1) (2 + 10) d c q) := by
      intro o hj
      have hjk := jn_k hj
      have hG := tN_gt hB p1 hjk.1
      obtain ⟨m2, i1, i2, i3⟩ := RS_next hB p1 e2.2.1 hjk.2.1
      rw [i1, bv_s]
      obtain ⟨w, m3, g1, g2⟩ := hA n (tN b q) m2 hN.2 (by omega) i2
      rw [g1, bi_s]
      refine ⟨_, _, rfl, (e2.1.tr i3).tr g2.1, ?_⟩
      rw [ps, if_neg (by decide), if_neg (by decide)]
      simp only [show 2 + 10 - 10 = 2 from rfl, hj, show 2 + 10 - 9 = 3 from rfl]
      have g3 := g2.2
      rcases hr2 : ps b n 3 d [] (tN b q) with e | ⟨c2, q2⟩
      · rw [hr2] at g3; exact g3
      · rw [hr2] at g3
        rw [bR_r, if_pos trivial]
        refine ⟨g3.1, ?_⟩
        rw [hnd]
        exact Vl_bin (by rw [← hnd]; exact Vl_mono e2.2.2 (by unfold nd; omega)) g3.2 hjk.2.2.1 hjk.2.2.2
    by_cases k60 : tK b q = 60
    · rw [if_pos k60, if_neg (by decide)]
      unfold gN77 gN93
      rw [if_pos (show lg_cmp (m1.2 63 24) 60 = 0 by rw [cmp0, RS_worth e2.2.1 (by decide) k60]; rfl)]
      have hj : jn 2 (tK b q) = some 3 := by rw [k60]; rfl
      rw [bvbi (g := fun r m3 => some (jo (nI 3) v r, m3)) (fun r m => by rw [if_neg (by decide), jo3]; split <;> rfl)]
      exact step 3 hj
    · rw [if_neg k60, if_pos rfl, RS_sign e2.2.1 (by decide), bi_s]
      by_cases k61 : tK b q = 61
      · rw [if_pos k61, if_neg (by decide)]
        unfold gN77 gN93
        rw [if_neg (show ¬ lg_cmp (m1.2 63 24) 60 = 0 by rw [cmp0, RS_worth e2.2.1 (by decide) k61]; decide)]
        have hj : jn 2 (tK b q) = some 4 := by rw [k61]; rfl
        rw [bvbi (g := fun r m3 => some (jo (nI 4) v r, m3)) (fun r m => by rw [if_pos rfl, jo4]; split <;> rfl)]
        exact step 4 hj
      · rw [if_neg k61, if_pos rfl]
        have hj : jn 2 (tK b q) = none := by unfold jn; simp [k60, k61]
        rw [ps, if_neg (by decide), if_neg (by decide)]
        simp only [show 2 + 10 - 10 = 2 from rfl, hj]
        exact ⟨_, _, rfl, PR_r e2.1 e2.2.1 (Vl_mono e2.2.2 (by unfold nd; omega))⟩
theorem SP_N5 (hB : By b S) {T : Mem → Option (Int32 × Mem)} (hA : SP b S B nm T 3 5) : SP b S B nm (gN5 T) 2 5 := by
  intro n p m hp hn h
  obtain ⟨n, rfl⟩ : ∃ n', n = n' + 1 := ⟨n - 1, by omega⟩
  unfold gN5
  rw [(RS_key (i := 0) hB hp h).2.2, bi_s]
  by_cases k15 : tK b p = 15
  · rw [if_pos k15, if_neg (by decide), ps, if_neg (by decide), if_pos (by decide), if_pos ⟨rfl, k15⟩, if_neg (by decide)]
    obtain ⟨m', e1, e2, e3⟩ := RS_opens5 h
    rw [e1, bi_s]
    exact ⟨_, m', rfl, PR_l e3 e2⟩
  · rw [if_neg k15, if_pos rfl]
    exact gNs_s hB hA hp (by omega) h k15
theorem SP_N (hB : By b S) {T N : Mem → Option (Int32 × Mem)} {d : Nat} (hd : d < 5) (hA : SP b S B nm T 3 d) (hN : SP b S B nm N 2 (d + 1)) : SP b S B nm (gN T N) 2 d := by
  intro n p m hp hn h
  obtain ⟨n, rfl⟩ : ∃ n', n = n' + 1 := ⟨n - 1, by omega⟩
  unfold gN
  rw [(RS_key (i := 0) hB hp h).2.2, bi_s]
  by_cases k15 : tK b p = 15
  · rw [if_pos k15, if_neg (by decide), ps, if_neg (by decide), if_pos (by decide), if_pos ⟨rfl, k15⟩, if_pos hd]
    have hG := tN_gt hB hp (by omega)
    obtain ⟨m1, e1, e2, e3⟩ := RS_opens hB hp h (by omega) hd
    rw [e1, bi_s, if_neg (by decide)]
    obtain ⟨v, m2, g1, g2⟩ := hN n (tN b p) m1 (tN_le hB hp).2 (by omega) e2
    rw [g1, bi_s]
    have e : (if v = 0 then some ((1 : Int32), pI m2 63 25 (m2.1 63 25 - 1)) else some ((0 : Int32), pI m2 63 25 (m2.1 63 25 - 1))) = some ((if v = 0 then 1 else 0 : Int32), pI m2 63 25 (m2.1 63 25 - 1)) := by split <;> rfl
    rw [e]
    rcases hr : ps b n 2 (d + 1) [] (tN b p) with e | ⟨c, q⟩
    · rw [hr] at g2
      exact ⟨_, _, rfl, PR_l ((e3.tr g2.1).tr (FrR.pI (by omega) _)) (RB_d g2.2 _)⟩
    · rw [hr] at g2
      refine ⟨_, _, rfl, PR_r ((e3.tr g2.1).tr (FrR.pI (by omega) _)) (RS_d g2.2.1 ?_) ?_⟩
      · rw [g2.2.1.2.2.1]; exact nI_pred d
      · exact Vl_un (Vl_mono g2.2.2 (nd_le hd).1) (o := -9) (by decide) (Or.inl (by decide))
  · rw [if_neg k15, if_pos rfl]
    exact gNs_s hB hA hp (by omega) h k15
theorem bT {A : Mem → Option (Int32 × Mem)} (m : Mem) (f : Nat) (v : Int32) (hb : RB m f) : gT A 10000 v m = some (v, m) := by
  rw [show (10000 : Nat) = 9999 + 1 from rfl, gT, RB_sign hb, bi_s, if_pos rfl]
theorem bS {A : Mem → Option (Int32 × Mem)} (m : Mem) (f : Nat) (v : Int32) (hb : RB m f) : gS A 10000 v m = some (v, m) := by
  rw [show (10000 : Nat) = 9999 + 1 from rfl, gS, RB_sign hb, bi_s, if_pos rfl, RB_sign hb, bi_s, if_pos rfl]
theorem bB {A : Mem → Option (Int32 × Mem)} (m : Mem) (f : Nat) (v : Int32) (hb : RB m f) : gB A 10000 v m = some (v, m) := by
  rw [show (10000 : Nat) = 9999 + 1 from rfl, gB, RB_word hb, bi_s, if_pos rfl]
theorem bE {A : Mem → Option (Int32 × Mem)} (m : Mem) (f : Nat) (v : Int32) (hb : RB m f) : gE A 10000 v m = some (v, m) := by
  rw [show (10000 : Nat) = 9999 + 1 from rfl, gE, RB_word hb, bi_s, if_pos rfl]
theorem sa_5 (hB : By b S) : SP b S B nm X10_atom5 5 5 := by rw [ga_5]; exact SP_A5 hB
theorem st_5 (hB : By b S) : SP b S B nm X10_term5 4 5 := by rw [gTl_5]; exact SP_L hB (by decide) (by decide) (sa_5 hB) (LP_T hB (sa_5 hB)) bT
theorem ss_5 (hB : By b S) : SP b S B nm X10_added5 3 5 := by rw [gSl_5]; exact SP_L hB (by decide) (by decide) (st_5 hB) (LP_S hB (st_5 hB)) bS
theorem sn_5 (hB : By b S) : SP b S B nm X10_not5 2 5 := by rw [gn_5]; exact SP_N5 hB (ss_5 hB)
theorem sb_5 (hB : By b S) : SP b S B nm X10_both5 1 5 := by rw [gBl_5]; exact SP_L hB (by decide) (by decide) (sn_5 hB) (LP_B hB (sn_5 hB)) bB
theorem se_5 (hB : By b S) : SP b S B nm X10_either5 0 5 := by rw [gEl_5]; exact SP_L hB (by decide) (by decide) (sb_5 hB) (LP_E hB (sb_5 hB)) bE
theorem sa_4 (hB : By b S) : SP b S B nm X10_atom4 5 4 := by rw [ga_4]; exact SP_A hB (by decide) (se_5 hB) (sa_5 hB)
theorem st_4 (hB : By b S) : SP b S B nm X10_term4 4 4 := by rw [gTl_4]; exact SP_L hB (by decide) (by decide) (sa_4 hB) (LP_T hB (sa_4 hB)) bT
theorem ss_4 (hB : By b S) : SP b S B nm X10_added4 3 4 := by rw [gSl_4]; exact SP_L hB (by decide) (by decide) (st_4 hB) (LP_S hB (st_4 hB)) bS
theorem sn_4 (hB : By b S) : SP b S B nm X10_not4 2 4 := by rw [gn_4]; exact SP_N hB (by decide) (ss_4 hB) (sn_5 hB)
theorem sb_4 (hB : By b S) : SP b S B nm X10_both4 1 4 := by rw [gBl_4]; exact SP_L hB (by decide) (by decide) (sn_4 hB) (LP_B hB (sn_4 hB)) bB
theorem se_4 (hB : By b S) : SP b S B nm X10_either4 0 4 := by rw [gEl_4]; exact SP_L hB (by decide) (by decide) (sb_4 hB) (LP_E hB (sb_4 hB)) bE
theorem sa_3 (hB : By b S) : SP b S B nm X10_atom3 5 3 := by rw [ga_3]; exact SP_A hB (by decide) (se_4 hB) (sa_4 hB)
theorem st_3 (hB : By b S) : SP b S B nm X10_term3 4 3 := by rw [gTl_3]; exact SP_L hB (by decide) (by decide) (sa_3 hB) (LP_T hB (sa_3 hB)) bT
theorem ss_3 (hB : By b S) : SP b S B nm X10_added3 3 3 := by rw [gSl_3]; exact SP_L hB (by decide) (by decide) (st_3 hB) (LP_S hB (st_3 hB)) bS
theorem sn_3 (hB : By b S) : SP b S B nm X10_not3 2 3 := by rw [gn_3]; exact SP_N hB (by decide) (ss_3 hB) (sn_4 hB)
theorem sb_3 (hB : By b S) : SP b S B nm X10_both3 1 3 := by rw [gBl_3]; exact SP_L hB (by decide) (by decide) (sn_3 hB) (LP_B hB (sn_3 hB)) bB
theorem se_3 (hB : By b S) : SP b S B nm X10_either3 0 3 := by rw [gEl_3]; exact SP_L hB (by decide) (by decide) (sb_3 hB) (LP_E hB (sb_3 hB)) bE
theorem sa_2 (hB : By b S) : SP b S B nm X10_atom2 5 2 := by rw [ga_2]; exact SP_A hB (by decide) (se_3 hB) (sa_3 hB)
theorem st_2 (hB : By b S) : SP b S B nm X10_term2 4 2 := by rw [gTl_2]; exact SP_L hB (by decide) (by decide) (sa_2 hB) (LP_T hB (sa_2 hB)) bT
theorem ss_2 (hB : By b S) : SP b S B nm X10_added2 3 2 := by rw [gSl_2]; exact SP_L hB (by decide) (by decide) (st_2 hB) (LP_S hB (st_2 hB)) bS
theorem sn_2 (hB : By b S) : SP b S B nm X10_not2 2 2 := by rw [gn_2]; exact SP_N hB (by decide) (ss_2 hB) (sn_3 hB)
theorem sb_2 (hB : By b S) : SP b S B nm X10_both2 1 2 := by rw [gBl_2]; exact SP_L hB (by decide) (by decide) (sn_2 hB) (LP_B hB (sn_2 hB)) bB
theorem se_2 (hB : By b S) : SP b S B nm X10_either2 0 2 := by rw [gEl_2]; exact SP_L hB (by decide) (by decide) (sb_2 hB) (LP_E hB (sb_2 hB)) bE
theorem sa_1 (hB : By b S) : SP b S B nm X10_atom1 5 1 := by rw [ga_1]; exact SP_A hB (by decide) (se_2 hB) (sa_2 hB)
theorem st_1 (hB : By b S) : SP b S B nm X10_term1 4 1 := by rw [gTl_1]; exact SP_L hB (by decide) (by decide) (sa_1 hB) (LP_T hB (sa_1 hB)) bT
theorem ss_1 (hB : By b S) : SP b S B nm X10_added1 3 1 := by rw [gSl_1]; exact SP_L hB (by decide) (by decide) (st_1 hB) (LP_S hB (st_1 hB)) bS
theorem sn_1 (hB : By b S) : SP b S B nm X10_not1 2 1 := by rw [gn_1]; exact SP_N hB (by decide) (ss_1 hB) (sn_2 hB)
theorem sb_1 (hB : By b S) : SP b S B nm X10_both1 1 1 := by rw [gBl_1]; exact SP_L hB (by decide) (by decide) (sn_1 hB) (LP_B hB (sn_1 hB)) bB
theorem se_1 (hB : By b S) : SP b S B nm X10_either1 0 1 := by rw [gEl_1]; exact SP_L hB (by decide) (by decide) (sb_1 hB) (LP_E hB (sb_1 hB)) bE
theorem sa_0 (hB : By b S) : SP b S B nm X10_atom0 5 0 := by rw [ga_0]; exact SP_A hB (by decide) (se_1 hB) (sa_1 hB)
theorem st_0 (hB : By b S) : SP b S B nm X10_term0 4 0 := by rw [gTl_0]; exact SP_L hB (by decide) (by decide) (sa_0 hB) (LP_T hB (sa_0 hB)) bT
theorem ss_0 (hB : By b S) : SP b S B nm X10_added0 3 0 := by rw [gSl_0]; exact SP_L hB (by decide) (by decide) (st_0 hB) (LP_S hB (st_0 hB)) bS
theorem sn_0 (hB : By b S) : SP b S B nm X10_not0 2 0 := by rw [gn_0]; exact SP_N hB (by decide) (ss_0 hB) (sn_1 hB)
theorem sb_0 (hB : By b S) : SP b S B nm X10_both0 1 0 := by rw [gBl_0]; exact SP_L hB (by decide) (by decide) (sn_0 hB) (LP_B hB (sn_0 hB)) bB
theorem se_0 (hB : By b S) : SP b S B nm X10_either0 0 0 := by rw [gEl_0]; exact SP_L hB (by decide) (by decide) (sb_0 hB) (LP_E hB (sb_0 hB)) bE
end
