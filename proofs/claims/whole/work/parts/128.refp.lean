theorem tV_num {b : Nat → Nat} {S p : Nat} (hB : By b S) (hp : p ≤ S) (h : tK b p = 2) : tV b p < 10000 := by
  obtain ⟨_, ha⟩ := tkA_s hB hp
  unfold tK at h
  obtain ⟨h1, h2, h3, h4⟩ := kAt_2.mp h
  obtain ⟨wk, _⟩ := nmE_s hB ha
  unfold tV vAt
  rw [if_neg (by rw [h2]; decide)]
  have := nmV_lt (b := b) (a := tkA b p) (nmE b (tkA b p) - tkA b p) h4 (fun i hi => wk.al _ (by omega) (by omega))
  have h10 : 10 ^ (nmE b (tkA b p) - tkA b p) ≤ 10 ^ 4 := Nat.pow_le_pow_right (by decide) h4
  omega
theorem tV_nam {b : Nat → Nat} {p : Nat} (h : tK b p = 3) : tV b p < 6 := by
  unfold tK at h
  obtain ⟨h1, h2, h3, h4⟩ := kAt_3.mp h
  unfold tV vAt
  rw [if_pos h2]; omega
section
variable {b : Nat → Nat} {S B : Nat} {nm : Nat → Int32}
theorem gAr_s (hB : By b S) {m : Mem} {p d H : Nat} (hp : p ≤ S) (h : RS b S B nm m p d) (hH : 1 ≤ H) : ∃ v m', gAr m = some (v, m') ∧ PR b S B nm m m' d H v (if tK b p = 2 then .inr ([nI (tV b p)], tN b p) else if tK b p = 3 then .inr ([-1 - nI (tV b p)], tN b p) else .inl (tkA b p)) := by
  have h26 := h.2.2.2.1
  obtain ⟨_, ha⟩ := tkA_s hB hp
  unfold gAr
  rw [if_pos h26]
  have t2 := tok2_r h.2.1
  by_cases k2 : tK b p = 2
  · rw [if_pos (t2.mpr k2), if_pos k2]
    obtain ⟨m', e1, e2, e3⟩ := RS_next hB hp h (by omega)
    rw [e1, bv_s, num_r h.2.1 k2]
    have := tV_num hB hp k2
    exact ⟨_, m', rfl, PR_r e3 e2 (Vl_num hH (by omega))⟩
  · rw [if_neg (fun q => k2 (t2.mp q)), if_neg k2]
    unfold gA123
    rw [if_pos h26]
    have t1 := tok1_r h.2.1
    by_cases hw : b (tkA b p) < 256 ∧ isLt (b (tkA b p)) = true
    · rw [if_pos (t1.mpr hw), name_r hB h.1 ha h.2.1 h26 hw.1 hw.2]
      by_cases k3 : tK b p = 3
      · rw [if_pos (show kAt b (tkA b p) = 3 from k3), bi_s, if_pos h26, if_pos k3]
        obtain ⟨m', e1, e2, e3⟩ := RS_next hB hp h (by omega)
        rw [e1, bv_s]
        have := tV_nam k3
        refine ⟨_, m', rfl, PR_r e3 e2 ?_⟩
        have hv : m.1 63 (13 + vAt b (tkA b p)) = nm (tV b p) := h.2.2.2.2 (tV b p) this
        rw [hv]
        exact Vl_nam hH this
      · rw [if_neg (show ¬ kAt b (tkA b p) = 3 from k3), if_neg k3]
        obtain ⟨m', e1, e2, e3⟩ := RS_fail h
        rw [e1, bv_s, bi_s, e2.1, if_neg (by decide)]
        exact ⟨_, m', rfl, PR_l e3 e2⟩
    · rw [if_neg (fun q => hw (t1.mp q))]
      have k3 : ¬ tK b p = 3 := fun q => hw ⟨(kAt_3.mp q).1, (kAt_3.mp q).2.1⟩
      rw [if_neg k3]
      unfold gA157
      obtain ⟨m', e1, e2, e3⟩ := RS_fail h
      rw [e1, bv_s]
      exact ⟨_, m', rfl, PR_l e3 e2⟩
theorem SP_A5 (hB : By b S) : SP b S B nm gA5 5 5 := by
  intro n p m hp hn h
  obtain ⟨n, rfl⟩ : ∃ n', n = n' + 1 := ⟨n - 1, by omega⟩
  rw [ps, if_pos rfl]
  unfold gA5
  rw [show (45 : Int32) = nI 45 from rfl, show (40 : Int32) = nI 40 from rfl, RS_sign h (by decide), bi_s]
  by_cases k45 : tK b p = 45
  · rw [if_pos k45, if_neg (by decide), if_neg (by omega), if_neg (by omega), if_neg (by omega), if_pos k45, if_neg (by decide)]
    obtain ⟨m', e1, e2, e3⟩ := RS_opens5 h
    rw [e1, bi_s]
    exact ⟨_, m', rfl, PR_l e3 e2⟩
  · rw [if_neg k45, if_pos rfl, RS_sign h (by decide), bi_s]
    by_cases k40 : tK b p = 40
    · rw [if_pos k40, if_neg (by decide), if_neg (by omega), if_neg (by omega), if_pos k40, if_neg (by decide)]
      obtain ⟨m', e1, e2, e3⟩ := RS_opens5 h
      rw [e1, bi_s]
      exact ⟨_, m', rfl, PR_l e3 e2⟩
    · rw [if_neg k40, if_pos rfl, if_neg k40, if_neg k45]
      exact gAr_s hB hp h (by decide)
theorem nd_le {L d : Nat} (h : d < 5) : nd L (d + 1) ≤ nd L d ∧ nd 0 (d + 1) ≤ nd 5 d := by unfold nd; omega
theorem SP_A (hB : By b S) {E A : Mem → Option (Int32 × Mem)} {d : Nat} (hd : d < 5) (hE : SP b S B nm E 0 (d + 1)) (hA : SP b S B nm A 5 (d + 1)) : SP b S B nm (gA E A) 5 d := by
  intro n p m hp hn h
  obtain ⟨n, rfl⟩ : ∃ n', n = n' + 1 := ⟨n - 1, by omega⟩
  have hN := tN_le hB hp
  have hG := tN_gt hB hp
  rw [ps, if_pos rfl]
  unfold gA
  rw [show (45 : Int32) = nI 45 from rfl, show (40 : Int32) = nI 40 from rfl, RS_sign h (by decide), bi_s]
  by_cases k45 : tK b p = 45
  · rw [if_pos k45, if_neg (by decide), if_neg (by omega), if_neg (by omega), if_neg (by omega), if_pos k45, if_pos hd]
    have hg := hG (by omega)
    obtain ⟨m1, e1, e2, e3⟩ := RS_opens hB hp h (by omega) hd
    rw [e1, bi_s, if_neg (by decide)]
    obtain ⟨v, m2, g1, g2⟩ := hA n (tN b p) m1 hN.2 (by omega) e2
    rw [g1, bi_s]
    rcases hr : ps b n 5 (d + 1) [] (tN b p) with e | ⟨c, q⟩
    · rw [hr] at g2
      exact ⟨_, _, rfl, PR_l ((e3.tr g2.1).tr (FrR.pI (by omega) _)) (RB_d g2.2 _)⟩
    · rw [hr] at g2
      refine ⟨_, _, rfl, PR_r ((e3.tr g2.1).tr (FrR.pI (by omega) _)) (RS_d g2.2.1 ?_) ?_⟩
      · rw [g2.2.1.2.2.1]; exact nI_pred d
      · exact Vl_un (Vl_mono g2.2.2 (nd_le hd).1) (o := -15) (by decide) (Or.inr (by decide))
  · rw [if_neg k45, if_pos rfl, RS_sign h (by decide), bi_s]
    by_cases k40 : tK b p = 40
    · rw [if_pos k40, if_neg (by decide), if_neg (by omega), if_neg (by omega), if_pos k40, if_pos hd]
      have hg := hG (by omega)
      obtain ⟨m1, e1, e2, e3⟩ := RS_opens hB hp h (by omega) hd
      rw [e1, bi_s, if_neg (by decide)]
      obtain ⟨v, m2, g1, g2⟩ := hE n (tN b p) m1 hN.2 (by omega) e2
      rw [g1, bi_s]
      rcases hr : ps b n 0 (d + 1) [] (tN b p) with e | ⟨c, q⟩
      · rw [hr] at g2
        rw [RB_sign g2.2, bi_s, if_pos rfl, RB_fail g2.2, bv_s, bR_l]
        unfold gA71
        rw [(RB_d g2.2 _).1, if_neg (by decide)]
        exact ⟨_, _, rfl, PR_l ((e3.tr g2.1).tr (FrR.pI (by omega) _)) (RB_d g2.2 _)⟩
      · rw [hr] at g2
        obtain ⟨p1, p2, p3, p4⟩ := ps_pr hB _ _ _ _ _ _ _ hN.2 hr
        rw [show (41 : Int32) = nI 41 from rfl, RS_sign g2.2.1 (by decide), bi_s, bR_r]
        by_cases k41 : tK b q = 41
        · rw [if_pos k41, if_neg (by decide), if_pos k41]
          unfold gA71
          have hd1 := RS_d (d' := d) g2.2.1 (v := m2.1 63 25 - 1) (by rw [g2.2.1.2.2.1]; exact nI_pred d)
          rw [hd1.2.2.2.1, if_pos rfl]
          obtain ⟨m3, i1, i2, i3⟩ := RS_next hB p1 hd1 (by omega)
          rw [i1, bv_s]
          exact ⟨_, _, rfl, PR_r (((e3.tr g2.1).tr (FrR.pI (by omega) _)).tr i3) i2 (Vl_mono g2.2.2 (nd_le (L := 0) hd).2)⟩
        · rw [if_neg k41, if_pos rfl, if_neg k41]
          obtain ⟨m3, i1, i2, i3⟩ := RS_fail g2.2.1
          rw [i1, bv_s]
          unfold gA71
          rw [(RB_d i2 _).1, if_neg (by decide)]
          exact ⟨_, _, rfl, PR_l (((e3.tr g2.1).tr i3).tr (FrR.pI (by omega) _)) (RB_d i2 _)⟩
    · rw [if_neg k40, if_pos rfl, if_neg k40, if_neg k45]
      exact gAr_s hB hp h (by unfold nd; omega)
/-- a level out of the next and its loop -/
theorem SP_L (hB : By b S) {A : Mem → Option (Int32 × Mem)} {G : Nat → Int32 → Mem → Option (Int32 × Mem)} {L d : Nat} (hL : L < 5) (h2 : L ≠ 2) (hA : SP b S B nm A (L + 1) d) (hG : LpR b S B nm G L d) (hbad : ∀ (m : Mem) (f : Nat) (v : Int32), RB m f → G 10000 v m = some (v, m)) : SP b S B nm (gLL A G) L d := by
  have hS := hB.hS
  intro n p m hp hn h
  obtain ⟨n, rfl⟩ : ∃ n', n = n' + 1 := ⟨n - 1, by omega⟩
  rw [ps, if_neg (by omega), if_pos hL, if_neg (fun q => h2 q.1)]
  unfold gLL
  obtain ⟨v, m1, e1, e2⟩ := hA n p m hp (by omega) h
  rw [e1, bi_s]
  rcases hr : ps b n (L + 1) d [] p with e | ⟨c, q⟩
  · rw [hr] at e2
    exact ⟨_, _, hbad m1 e v e2.2, PR_l e2.1 e2.2⟩
  · rw [hr] at e2
    obtain ⟨p1, p2, p3, p4⟩ := ps_pr hB _ _ _ _ _ _ _ hp hr
    have p5 := p2 (by omega)
    obtain ⟨v', m2, g1, g2⟩ := hG n q m1 c v 10000 p1 (by omega) (by omega) e2.2.1 (Vl_mono e2.2.2 (by unfold nd; omega))
    refine ⟨v', m2, g1, e2.1.tr g2.1, ?_⟩
    exact g2.2
/-- one more joined -/
theorem LpR_step (hB : By b S) {A : Mem → Option (Int32 × Mem)} {L d n p k o : Nat} {m : Mem} {acc : List Int32} {v : Int32} (K : Int32 → Mem → Option (Int32 × Mem)) (hL : L < 5) (h2 : L ≠ 2) (hA : SP b S B nm A (L + 1) d) (hp : p ≤ S) (hn : 10 * (S + 1 - p) < n + 1) (hk : S + 1 - p < k + 1) (h : RS b S B nm m p d) (hv : Vl nm (nd L d) acc v) (hj : jn L (tK b p) = some o)
    (ih : ∀ (p' : Nat) (m' : Mem) (acc' : List Int32) (v' : Int32), p' ≤ S → 10 * (S + 1 - p') < n → S + 1 - p' < k → RS b S B nm m' p' d → Vl nm (nd L d) acc' v' → ∃ v2 m2, K v' m' = some (v2, m2) ∧ PR b S B nm m' m2 d (nd L d) v2 (ps b n (L + 10) d acc' p'))
    (hbad : ∀ (m : Mem) (f : Nat) (v : Int32), RB m f → ∃ v2, K v m = some (v2, m)) : ∃ v' m', (bv (X10_next m) fun m1 => bi (A m1) fun r m2 => K (jo (nI o) v r) m2) = some (v', m') ∧ PR b S B nm m m' d (nd L d) v' (ps b (n + 1) (L + 10) d acc p) := by
  have hN := tN_le hB hp
  have hjk := jn_k hj
  have hG := tN_gt hB hp hjk.1
  obtain ⟨m1, e1, e2, e3⟩ := RS_next hB hp h hjk.2.1
  rw [e1, bv_s]
  obtain ⟨w, m2, g1, g2⟩ := hA n (tN b p) m1 hN.2 (by omega) e2
  rw [g1, bi_s]
  rw [ps, if_neg (show ¬ L + 10 = 5 by omega), if_neg (show ¬ L + 10 < 5 by omega)]
  simp only [Nat.add_sub_cancel, show L + 10 - 9 = L + 1 by omega, hj]
  rcases hr : ps b n (L + 1) d [] (tN b p) with e | ⟨c, q⟩
  · rw [hr] at g2
    obtain ⟨v2, hb⟩ := hbad m2 e (jo (nI o) v w) g2.2
    exact ⟨_, _, hb, PR_l (e3.tr g2.1) g2.2⟩
  · rw [hr] at g2
    rw [bR_r, if_neg (show ¬ L + 10 = 12 by omega)]
    obtain ⟨p1, p2, p3, p4⟩ := ps_pr hB _ _ _ _ _ _ _ hN.2 hr
    have hnd : nd L d = nd (L + 1) d + 1 := by unfold nd; omega
    obtain ⟨v2, m3, i1, i2⟩ := ih q m2 _ (jo (nI o) v w) p1 (by omega) (by omega) g2.2.1 (by rw [hnd]; exact Vl_bin (by rw [← hnd]; exact hv) g2.2.2 hjk.2.2.1 hjk.2.2.2)
    exact ⟨_, _, i1, (e3.tr g2.1).tr i2.1, i2.2⟩
theorem LpR_stop {L d n p : Nat} {m : Mem} {acc : List Int32} {v : Int32} (hL : L < 5) (h : RS b S B nm m p d) (hv : Vl nm (nd L d) acc v) (hj : jn L (tK b p) = none) : PR b S B nm m m d (nd L d) v (ps b (n + 1) (L + 10) d acc p) := by
  rw [ps, if_neg (show ¬ L + 10 = 5 by omega), if_neg (show ¬ L + 10 < 5 by omega)]
  simp only [Nat.add_sub_cancel, hj]
  exact PR_r (FrR.rfl' m) h hv
theorem LP_T (hB : By b S) {A : Mem → Option (Int32 × Mem)} {d : Nat} (hA : SP b S B nm A 5 d) : LpR b S B nm (gT A) 4 d := by
  intro n
  induction n with
  | zero => intro p m acc v k hp hn; omega
  | succ n ih =>
    intro p m acc v k hp hn hk h hv
    obtain ⟨k, rfl⟩ : ∃ k', k = k' + 1 := ⟨k - 1, by omega⟩
    rw [gT, show (42 : Int32) = nI 42 from rfl, RS_sign h (by decide), bi_s]
    by_cases k42 : tK b p = 42
    · rw [if_pos k42, if_neg (by decide)]
      have hj : jn 4 (tK b p) = some 7 := by rw [k42]; rfl
      refine LpR_step hB (gT A k) (by decide) (by decide) hA hp hn hk h hv hj (fun p' m' acc' v' h1 h2 h3 h4 h5 => ih p' m' acc' v' k h1 h2 h3 h4 h5) ?_
      intro m f v hb
      cases k with
      | zero => omega
      | succ k => exact ⟨v, by rw [gT, RB_sign hb, bi_s, if_pos rfl]⟩
    · rw [if_neg k42, if_pos rfl]
      exact ⟨_, _, rfl, LpR_stop (by decide) h hv (by unfold jn; simp [k42])⟩
end
