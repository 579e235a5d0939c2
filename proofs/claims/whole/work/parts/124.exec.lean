/-! TEXT: what code says -/
def jo (o x y : Int32) : Int32 :=
  if o = 0 then (if x = 0 then (if y = 0 then 0 else 1) else 1)
  else if o = 1 then (if x = 0 then 0 else if y = 0 then 0 else 1)
  else if o = 2 then x * y
  else if o = 3 then (if y ≤ x then 0 else 1)
  else if o = 4 then (if x = y then 1 else 0)
  else if o = 5 then x + y
  else if o = 6 then x - y
  else x * y
theorem joined_c (o x y : Int32) (m : Mem) : X7_joined o x y m = some (jo o x y, m) := by
  unfold X7_joined jo
  split
  · split
    · split <;> rfl
    · rfl
  · split
    · split
      · rfl
      · split <;> rfl
    · split
      · rfl
      · split
        · split <;> rfl
        · split
          · split <;> rfl
          · split
            · rfl
            · split <;> rfl
def ex1 (nm : Nat → Int32) (c : Int32) (st : List Int32) : Option (List Int32) :=
  if c ≤ -7 then
    if -7 - c = 2 ∨ -7 - c = 8 then
      match st with
      | [] => none
      | v :: st' => some ((if -7 - c = 8 then -v else if v = 0 then 1 else 0) :: st')
    else
      match st with
      | y :: x :: st' => some (jo (-7 - c) x y :: st')
      | _ => none
  else if st.length < 40 then
    if c < 0 then
      if inn (-1 - c) 6 then some (nm (-1 - c).toNatClampNeg :: st) else none
    else some (c :: st)
  else none
def ex (nm : Nat → Int32) : List Int32 → List Int32 → Option (List Int32)
  | [], st => some st
  | c :: cs, st => (ex1 nm c st).bind (ex nm cs)
theorem ex_1 (nm : Nat → Int32) (c : Int32) (st : List Int32) : ex nm [c] st = ex1 nm c st := by
  rw [ex]
  cases ex1 nm c st <;> rfl
theorem ex_app (nm : Nat → Int32) : ∀ (c1 c2 st : List Int32), ex nm (c1 ++ c2) st = (ex nm c1 st).bind (ex nm c2) := by
  intro c1
  induction c1 with
  | nil => intro c2 st; rfl
  | cons c cs ih =>
    intro c2 st
    rw [List.cons_append, ex, ex]
    cases ex1 nm c st with
    | none => rfl
    | some x => exact ih _ _
/-- code that lays v on the stack, with room for H -/
def Vl (nm : Nat → Int32) (H : Nat) (c : List Int32) (v : Int32) : Prop := ∀ st, st.length + H ≤ 40 → ex nm c st = some (v :: st)
theorem Vl_mono {nm : Nat → Int32} {H H' : Nat} {c : List Int32} {v : Int32} (h : Vl nm H c v) (hH : H ≤ H') : Vl nm H' c v := fun st hs => h st (by omega)
theorem Vl_num {nm : Nat → Int32} {H k : Nat} (hH : 1 ≤ H) (hk : k < 2147483648) : Vl nm H [nI k] (nI k) := by
  intro st hs
  rw [ex_1, ex1.eq_def, if_neg (by
    intro q
    have q2 := Int32.le_iff_toInt_le.mp q
    rw [nI_toInt (by omega)] at q2
    have h3 : (-7 : Int32).toInt = -7 := rfl
    omega), if_pos (by omega), if_neg (nI_pos (by omega))]
theorem nm_lt {k : Nat} (hk : k < 6) : ¬ (-1 - nI k : Int32) ≤ -7 ∧ (-1 - nI k : Int32) < 0 ∧ -1 - (-1 - nI k) = nI k := by
  rcases (show k = 0 ∨ k = 1 ∨ k = 2 ∨ k = 3 ∨ k = 4 ∨ k = 5 by omega) with rfl | rfl | rfl | rfl | rfl | rfl <;> decide
theorem Vl_nam {nm : Nat → Int32} {H k : Nat} (hH : 1 ≤ H) (hk : k < 6) : Vl nm H [-1 - nI k] (nm k) := by
  intro st hs
  obtain ⟨h1, h2, h3⟩ := nm_lt hk
  rw [ex_1, ex1.eq_def, if_neg h1, if_pos (by omega), if_pos h2, h3, if_pos (by rw [n_inn (by omega)]; exact hk), n_cl (by omega)]
theorem Vl_un {nm : Nat → Int32} {H : Nat} {c : List Int32} {v : Int32} (h : Vl nm H c v) {o : Int32} (h1 : o ≤ -7) (h2 : -7 - o = 2 ∨ -7 - o = 8) : Vl nm H (c ++ [o]) (if -7 - o = 8 then -v else if v = 0 then 1 else 0) := by
  intro st hs
  rw [ex_app, h st hs]
  show ex nm [o] (v :: st) = _
  rw [ex_1, ex1, if_pos h1, if_pos h2]
theorem Vl_bin {nm : Nat → Int32} {H : Nat} {c c2 : List Int32} {v w : Int32} (h : Vl nm (H + 1) c v) (g : Vl nm H c2 w) {o : Nat} (h1 : o < 8) (h2 : o ≠ 2) : Vl nm (H + 1) (c ++ (c2 ++ [-7 - nI o])) (jo (nI o) v w) := by
  intro st hs
  rw [ex_app, h st hs]
  rw [Option.bind_some, ex_app, g (v :: st) (by simp only [List.length_cons]; omega)]
  rw [Option.bind_some, ex_1]
  have q : (-7 - nI o : Int32) ≤ -7 ∧ -7 - (-7 - nI o) = nI o ∧ ¬ (nI o = 2 ∨ nI o = 8) := by
    rcases (show o = 0 ∨ o = 1 ∨ o = 3 ∨ o = 4 ∨ o = 5 ∨ o = 6 ∨ o = 7 by omega) with rfl | rfl | rfl | rfl | rfl | rfl | rfl <;> decide
  rw [ex1, if_pos q.1, q.2.1, if_neg q.2.2]
