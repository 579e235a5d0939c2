/-! TEXT: what the class makes of code -/
def SkM (m : Mem) : List Int32 → Prop
  | [] => True
  | v :: st => m.1 37 st.length = v ∧ SkM m st
theorem SkM_p {m : Mem} {k : Nat} {x : Int32} : ∀ st : List Int32, st.length ≤ k → SkM m st → SkM (pI m 37 k x) st := by
  intro st
  induction st with
  | nil => intro _ _; trivial
  | cons v st ih =>
    intro hk h
    simp only [List.length_cons] at hk
    exact ⟨by rw [rI, if_neg (by omega)]; exact h.1, ih (by omega) h.2⟩
theorem SkM_push {m : Mem} {x : Int32} {st : List Int32} (h : SkM m st) : SkM (pI m 37 st.length x) (x :: st) := ⟨by rw [rI, if_pos ⟨rfl, rfl⟩], SkM_p st (Nat.le_refl _) h⟩
/-- only the stack is another one -/
def Fr37 (m m' : Mem) : Prop := (∀ x j, x ≠ 37 → m'.1 x j = m.1 x j) ∧ m'.2 = m.2
theorem Fr37.pI {m : Mem} (k : Nat) (v : Int32) : Fr37 m (pI m 37 k v) := ⟨fun x j hx => by rw [rI, if_neg (by omega)], rfl⟩
theorem Fr37.tr {m m' m2 : Mem} (h : Fr37 m m') (g : Fr37 m' m2) : Fr37 m m2 := ⟨fun x j hx => (g.1 x j hx).trans (h.1 x j hx), g.2.trans h.2⟩
theorem value_21c {nt : Nat} {z : Nat → Nat} {t w e : Nat} {nm : Nat → Int32} {r : Int32} (ht : t + 1 ≠ 37 ∧ t + 2 ≠ 37) (hw : w < 3) (hl2 : ln z (t + 2) = 3) (hle : e ≤ ln z (t + 1)) (he : e < 1000) : ∀ (cs st : List Int32) (i0 k : Nat) (m : Mem), i0 + cs.length = e → m.1 (t + 2) w = nI e → (∀ j, j < cs.length → m.1 (t + 1) (i0 + j) = cs.getD j 0) → (∀ i, i < 6 → m.1 36 i = nm i) → SkM m st → st.length ≤ 40 → ex nm cs st = some [r] → cs.length < k → ∃ m', X7_value_21 nt z t k (nI w) (nI st.length) (nI i0) m = some (r, m') ∧ Fr37 m m' := by
  intro cs
  induction cs with
  | nil =>
    intro st i0 k m hi hend hcode hnm hst h40 hex hk
    obtain ⟨k, rfl⟩ : ∃ k', k = k' + 1 := ⟨k - 1, by omega⟩
    rw [ex] at hex
    cases hex
    simp only [List.length_nil, List.length_cons, Nat.add_zero, Nat.zero_add] at hi ⊢
    subst hi
    rw [X7_value_21, hl2, if_pos (by rw [n_inn (by omega)]; exact hw), n_cl (by omega), hend, if_pos (nI_le (Nat.le_refl _) (by omega)), if_pos (by decide), if_pos (by decide)]
    have hr0 : m.1 37 0 = r := hst.1
    exact ⟨m, by rw [show (0 : Int32).toNatClampNeg = 0 from rfl, hr0], ⟨fun _ _ _ => rfl, rfl⟩⟩
  | cons c cs ih =>
    intro st i0 k m hi hend hcode hnm hst h40 hex hk
    simp only [List.length_cons] at hi hk hcode
    obtain ⟨k, rfl⟩ : ∃ k', k = k' + 1 := ⟨k - 1, by omega⟩
    have hc : m.1 (t + 1) i0 = c := by have := hcode 0 (by omega); simpa using this
    rw [X7_value_21, hl2, if_pos (by rw [n_inn (by omega)]; exact hw), n_cl (by omega), hend, if_neg (nI_ge (by omega) (by omega)), if_pos (by rw [n_inn (by omega)]; omega), n_cl (by omega), hc]
    have step : ∀ (st' : List Int32) (kk : Nat) (x : Int32), ex1 nm c st = some st' → SkM (pI m 37 kk x) st' → st'.length ≤ 40 → ∃ m', X7_value_21 nt z t k (nI w) (nI st'.length) (nI (i0 + 1)) (pI m 37 kk x) = some (r, m') ∧ Fr37 m m' := by
      intro st' kk x h1 h2 h3
      rw [ex, h1] at hex
      obtain ⟨m', e1, e2⟩ := ih st' (i0 + 1) k (pI m 37 kk x) (by omega) (by rw [rI, if_neg (by omega)]; exact hend) (fun j hj => by
        rw [rI, if_neg (by omega)]
        have := hcode (j + 1) (by omega)
        simp only [List.getD_cons_succ] at this
        rw [show i0 + 1 + j = i0 + (j + 1) by omega]; exact this) (fun i hi => by rw [rI, if_neg (by omega)]; exact hnm i hi) h2 h3 hex (by omega)
      exact ⟨m', e1, (Fr37.pI _ _).tr e2⟩
    by_cases h1 : c ≤ -7
    · rw [if_pos h1]
      by_cases h2 : -7 - c = 2 ∨ -7 - c = 8
      · cases st with
        | nil => rw [ex, ex1, if_pos h1, if_pos h2] at hex; cases hex
        | cons v st =>
          have h103 : ∃ m', X7_value_103 nt z t (X7_value_21 nt z t k) (nI w) (nI (st.length + 1)) (nI i0) (-7 - c) m = some (r, m') ∧ Fr37 m m' := by
            simp only [List.length_cons] at h40
            unfold X7_value_103
            rw [if_pos (show (1 : Int32) ≤ nI (st.length + 1) from nI_le (a := 1) (by omega) (by omega)), nI_pred, if_pos (by rw [n_inn (by omega)]; omega), n_cl (by omega), hst.1]
            have hs := step ((if -7 - c = 8 then -v else if v = 0 then 1 else 0) :: st) st.length (if -7 - c = 8 then -v else if v = 0 then 1 else 0) (by rw [ex1, if_pos h1, if_pos h2]) (SkM_push hst.2) (by simpa using h40)
            have e147 : ∀ x : Int32, X7_value_147 nt z t (X7_value_21 nt z t k) (nI w) (nI (st.length + 1)) (nI i0) x (nI st.length) m = X7_value_21 nt z t k (nI w) (nI (st.length + 1)) (nI (i0 + 1)) (pI m 37 st.length x) := by
              intro x
              unfold X7_value_147 X7_value_183
              rw [if_pos (by rw [n_inn (by omega)]; omega), n_cl (by omega), nI_1]
            simp only [e147]
            simp only [List.length_cons] at hs
            by_cases h8 : -7 - c = 8
            · rw [if_pos h8]
              rw [if_pos h8] at hs
              exact hs
            · rw [if_neg h8]
              rw [if_neg h8] at hs
              by_cases hv : v = 0
              · rw [if_pos hv]; rw [if_pos hv] at hs; exact hs
              · rw [if_neg hv]; rw [if_neg hv] at hs; exact hs
          simp only [List.length_cons]
          by_cases h8 : -7 - c = 2
          · rw [if_pos h8]; exact h103
          · rw [if_neg h8, if_pos (by rcases h2 with h | h; exact absurd h h8; exact h)]; exact h103
      · rw [if_neg (fun q => h2 (Or.inl q)), if_neg (fun q => h2 (Or.inr q))]
        rcases st with _ | ⟨y, _ | ⟨x, st⟩⟩
        · rw [ex, ex1.eq_def, if_pos h1, if_neg h2] at hex; cases hex
        · rw [ex, ex1.eq_def, if_pos h1, if_neg h2] at hex; cases hex
        · simp only [List.length_cons] at h40 ⊢
          rw [if_pos (show (2 : Int32) ≤ nI (st.length + 1 + 1) from nI_le (a := 2) (by omega) (by omega)), pk_m1, nI_pred, if_pos (by rw [n_inn (by omega)]; omega), if_pos (by rw [n_inn (by omega)]; omega), joined_c, bi_s, if_pos (by rw [n_inn (by omega)]; omega), n_cl (by omega), n_cl (by omega)]
          have g1 : m.1 37 st.length = x := hst.2.1
          have g2 : m.1 37 (st.length + 1) = y := hst.1
          rw [g1, g2]
          have hs := step (jo (-7 - c) x y :: st) st.length (jo (-7 - c) x y) (by rw [ex1.eq_def, if_pos h1, if_neg h2]) (SkM_push hst.2.2) (by simp only [List.length_cons]; omega)
          unfold X7_value_183
          rw [nI_1]
          exact hs
    · rw [if_neg h1]
      by_cases h2 : st.length < 40
      · rw [if_pos (show nI st.length < 40 from nI_lt (b := 40) h2 (by decide))]
        have e76 : ∀ x : Int32, X7_value_76 nt z t (X7_value_21 nt z t k) (nI w) (nI st.length) (nI i0) x (nI st.length) m = X7_value_21 nt z t k (nI w) (nI (st.length + 1)) (nI (i0 + 1)) (pI m 37 st.length x) := by
          intro x
          unfold X7_value_76 X7_value_183
          rw [if_pos (by rw [n_inn (by omega)]; omega), n_cl (by omega), nI_1, nI_1]
        by_cases h3 : c < 0
        · rw [if_pos h3]
          by_cases h4 : inn (-1 - c) 6
          · rw [if_pos h4, e76, hnm _ (inn_lt h4)]
            have hs := step (nm (-1 - c).toNatClampNeg :: st) st.length (nm (-1 - c).toNatClampNeg) (by rw [ex1.eq_def, if_neg h1, if_pos h2, if_pos h3, if_pos h4]) (SkM_push hst) (by simp only [List.length_cons]; omega)
            exact hs
          · rw [ex, ex1.eq_def, if_neg h1, if_pos h2, if_pos h3, if_neg h4] at hex; cases hex
        · rw [if_neg h3, e76]
          have hs := step (c :: st) st.length c (by rw [ex1.eq_def, if_neg h1, if_pos h2, if_neg h3]) (SkM_push hst) (by simp only [List.length_cons]; omega)
          exact hs
      · rw [ex, ex1.eq_def, if_neg h1, if_neg h2] at hex; cases hex
/-- a text of the class at cell t -/
def TcC (m : Mem) (z : Nat → Nat) (t : Nat) (c1 c2 c3 : List Int32) : Prop := t + 1 ≠ 37 ∧ t + 2 ≠ 37 ∧ ln z (t + 2) = 3 ∧ ln z (t + 1) = c1.length + c2.length + c3.length ∧ c1.length + c2.length + c3.length < 160 ∧ m.1 (t + 2) 0 = nI c1.length ∧ m.1 (t + 2) 1 = nI (c1.length + c2.length) ∧ m.1 (t + 2) 2 = nI (c1.length + c2.length + c3.length) ∧ ∀ i, i < c1.length + c2.length + c3.length → m.1 (t + 1) i = (c1 ++ (c2 ++ c3)).getD i 0
theorem value_c {nt : Nat} {z : Nat → Nat} {t w : Nat} {nm : Nat → Int32} {v : Int32} {m : Mem} {c1 c2 c3 : List Int32} (h : TcC m z t c1 c2 c3) (hn : ∀ i, i < 6 → m.1 36 i = nm i) (hw : w < 3) (hv : Vl nm 31 (if w = 0 then c1 else if w = 1 then c2 else c3) v) : ∃ m', X7_value nt z t (nI w) m = some (v, m') ∧ Fr37 m m' := by
  obtain ⟨h1, h2, h3, h4, h5, h6, h7, h8, h9⟩ := h
  have hex := hv [] (by decide)
  unfold X7_value X7_value_19
  rcases (show w = 0 ∨ w = 1 ∨ w = 2 by omega) with rfl | rfl | rfl
  · rw [if_pos (show nI 0 = 0 from rfl)]
    exact value_21c ⟨h1, h2⟩ hw h3 (e := c1.length) (by omega) (by omega) c1 [] 0 10000 m (by omega) h6 (fun j hj => by rw [Nat.zero_add, h9 j (by omega), getD_app2, if_pos hj]) hn trivial (by decide) hex (by omega)
  · rw [if_neg (show ¬ nI 1 = 0 by decide), show nI 1 - 1 = nI 0 from rfl, h3, if_pos (by decide), n_cl (by decide), h6]
    exact value_21c ⟨h1, h2⟩ hw h3 (e := c1.length + c2.length) (by omega) (by omega) c2 [] c1.length 10000 m (by omega) h7 (fun j hj => by rw [h9 _ (by omega), getD_app2, if_neg (by omega), getD_app2, if_pos (by omega), Nat.add_sub_cancel_left]) hn trivial (by decide) hex (by omega)
  · rw [if_neg (show ¬ nI 2 = 0 by decide), show nI 2 - 1 = nI 1 from rfl, h3, if_pos (by decide), n_cl (by decide), h7]
    exact value_21c ⟨h1, h2⟩ hw h3 (e := c1.length + c2.length + c3.length) (by omega) (by omega) c3 [] (c1.length + c2.length) 10000 m (by omega) h8 (fun j hj => by rw [h9 _ (by omega), getD_app2, if_neg (by omega), getD_app2, if_neg (by omega)]; congr 1; omega) hn trivial (by decide) hex (by omega)
