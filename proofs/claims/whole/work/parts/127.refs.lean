/-! TEXT: they are the same -/
theorem ga_0 : X10_atom0 = gA X10_either1 X10_atom1 := rfl
theorem gn_0 : X10_not0 = gN X10_added0 X10_not1 := rfl
theorem gT_0 : ∀ n : Nat, X10_term0_5 n = gT X10_atom0 n
  | 0 => rfl
  | n + 1 => by
    have ih := gT_0 n
    funext v m
    rw [X10_term0_5, gT, ← ih]
theorem gTl_0 : X10_term0 = gLL X10_atom0 (gT X10_atom0) := by
  funext m
  unfold X10_term0 gLL
  rw [gT_0]
theorem gS_0 : ∀ n : Nat, X10_added0_5 n = gS X10_term0 n
  | 0 => rfl
  | n + 1 => by
    have ih := gS_0 n
    funext v m
    rw [X10_added0_5, gS, ← ih]
    rfl
theorem gSl_0 : X10_added0 = gLL X10_term0 (gS X10_term0) := by
  funext m
  unfold X10_added0 gLL
  rw [gS_0]
theorem gB_0 : ∀ n : Nat, X10_both0_5 n = gB X10_not0 n
  | 0 => rfl
  | n + 1 => by
    have ih := gB_0 n
    funext v m
    rw [X10_both0_5, gB, ← ih]
    rfl
theorem gBl_0 : X10_both0 = gLL X10_not0 (gB X10_not0) := by
  funext m
  unfold X10_both0 gLL
  rw [gB_0]
theorem gE_0 : ∀ n : Nat, X10_either0_5 n = gE X10_both0 n
  | 0 => rfl
  | n + 1 => by
    have ih := gE_0 n
    funext v m
    rw [X10_either0_5, gE, ← ih]
    rfl
theorem gEl_0 : X10_either0 = gLL X10_both0 (gE X10_both0) := by
  funext m
  unfold X10_either0 gLL
  rw [gE_0]
theorem ga_1 : X10_atom1 = gA X10_either2 X10_atom2 := rfl
theorem gn_1 : X10_not1 = gN X10_added1 X10_not2 := rfl
theorem gT_1 : ∀ n : Nat, X10_term1_5 n = gT X10_atom1 n
  | 0 => rfl
  | n + 1 => by
    have ih := gT_1 n
    funext v m
    rw [X10_term1_5, gT, ← ih]
theorem gTl_1 : X10_term1 = gLL X10_atom1 (gT X10_atom1) := by
  funext m
  unfold X10_term1 gLL
  rw [gT_1]
theorem gS_1 : ∀ n : Nat, X10_added1_5 n = gS X10_term1 n
  | 0 => rfl
  | n + 1 => by
    have ih := gS_1 n
    funext v m
    rw [X10_added1_5, gS, ← ih]
    rfl
theorem gSl_1 : X10_added1 = gLL X10_term1 (gS X10_term1) := by
  funext m
  unfold X10_added1 gLL
  rw [gS_1]
theorem gB_1 : ∀ n : Nat, X10_both1_5 n = gB X10_not1 n
  | 0 => rfl
  | n + 1 => by
    have ih := gB_1 n
    funext v m
    rw [X10_both1_5, gB, ← ih]
    rfl
theorem gBl_1 : X10_both1 = gLL X10_not1 (gB X10_not1) := by
  funext m
  unfold X10_both1 gLL
  rw [gB_1]
theorem gE_1 : ∀ n : Nat, X10_either1_5 n = gE X10_both1 n
  | 0 => rfl
  | n + 1 => by
    have ih := gE_1 n
    funext v m
    rw [X10_either1_5, gE, ← ih]
    rfl
theorem gEl_1 : X10_either1 = gLL X10_both1 (gE X10_both1) := by
  funext m
  unfold X10_either1 gLL
  rw [gE_1]
theorem ga_2 : X10_atom2 = gA X10_either3 X10_atom3 := rfl
theorem gn_2 : X10_not2 = gN X10_added2 X10_not3 := rfl
theorem gT_2 : ∀ n : Nat, X10_term2_5 n = gT X10_atom2 n
  | 0 => rfl
  | n + 1 => by
    have ih := gT_2 n
    funext v m
    rw [X10_term2_5, gT, ← ih]
theorem gTl_2 : X10_term2 = gLL X10_atom2 (gT X10_atom2) := by
  funext m
  unfold X10_term2 gLL
  rw [gT_2]
theorem gS_2 : ∀ n : Nat, X10_added2_5 n = gS X10_term2 n
  | 0 => rfl
  | n + 1 => by
    have ih := gS_2 n
    funext v m
    rw [X10_added2_5, gS, ← ih]
    rfl
theorem gSl_2 : X10_added2 = gLL X10_term2 (gS X10_term2) := by
  funext m
  unfold X10_added2 gLL
  rw [gS_2]
theorem gB_2 : ∀ n : Nat, X10_both2_5 n = gB X10_not2 n
  | 0 => rfl
  | n + 1 => by
    have ih := gB_2 n
    funext v m
    rw [X10_both2_5, gB, ← ih]
    rfl
theorem gBl_2 : X10_both2 = gLL X10_not2 (gB X10_not2) := by
  funext m
  unfold X10_both2 gLL
  rw [gB_2]
theorem gE_2 : ∀ n : Nat, X10_either2_5 n = gE X10_both2 n
  | 0 => rfl
  | n + 1 => by
    have ih := gE_2 n
    funext v m
    rw [X10_either2_5, gE, ← ih]
    rfl
theorem gEl_2 : X10_either2 = gLL X10_both2 (gE X10_both2) := by
  funext m
  unfold X10_either2 gLL
  rw [gE_2]
theorem ga_3 : X10_atom3 = gA X10_either4 X10_atom4 := rfl
theorem gn_3 : X10_not3 = gN X10_added3 X10_not4 := rfl
theorem gT_3 : ∀ n : Nat, X10_term3_5 n = gT X10_atom3 n
  | 0 => rfl
  | n + 1 => by
    have ih := gT_3 n
    funext v m
    rw [X10_term3_5, gT, ← ih]
theorem gTl_3 : X10_term3 = gLL X10_atom3 (gT X10_atom3) := by
  funext m
  unfold X10_term3 gLL
  rw [gT_3]
theorem gS_3 : ∀ n : Nat, X10_added3_5 n = gS X10_term3 n
  | 0 => rfl
  | n + 1 => by
    have ih := gS_3 n
    funext v m
    rw [X10_added3_5, gS, ← ih]
    rfl
theorem gSl_3 : X10_added3 = gLL X10_term3 (gS X10_term3) := by
  funext m
  unfold X10_added3 gLL
  rw [gS_3]
theorem gB_3 : ∀ n : Nat, X10_both3_5 n = gB X10_not3 n
  | 0 => rfl
  | n + 1 => by
    have ih := gB_3 n
    funext v m
    rw [X10_both3_5, gB, ← ih]
    rfl
theorem gBl_3 : X10_both3 = gLL X10_not3 (gB X10_not3) := by
  funext m
  unfold X10_both3 gLL
  rw [gB_3]
theorem gE_3 : ∀ n : Nat, X10_either3_5 n = gE X10_both3 n
  | 0 => rfl
  | n + 1 => by
    have ih := gE_3 n
    funext v m
    rw [X10_either3_5, gE, ← ih]
    rfl
theorem gEl_3 : X10_either3 = gLL X10_both3 (gE X10_both3) := by
  funext m
  unfold X10_either3 gLL
  rw [gE_3]
theorem ga_4 : X10_atom4 = gA X10_either5 X10_atom5 := rfl
theorem gn_4 : X10_not4 = gN X10_added4 X10_not5 := rfl
theorem gT_4 : ∀ n : Nat, X10_term4_5 n = gT X10_atom4 n
  | 0 => rfl
  | n + 1 => by
    have ih := gT_4 n
    funext v m
    rw [X10_term4_5, gT, ← ih]
theorem gTl_4 : X10_term4 = gLL X10_atom4 (gT X10_atom4) := by
  funext m
  unfold X10_term4 gLL
  rw [gT_4]
theorem gS_4 : ∀ n : Nat, X10_added4_5 n = gS X10_term4 n
  | 0 => rfl
  | n + 1 => by
    have ih := gS_4 n
    funext v m
    rw [X10_added4_5, gS, ← ih]
    rfl
theorem gSl_4 : X10_added4 = gLL X10_term4 (gS X10_term4) := by
  funext m
  unfold X10_added4 gLL
  rw [gS_4]
theorem gB_4 : ∀ n : Nat, X10_both4_5 n = gB X10_not4 n
  | 0 => rfl
  | n + 1 => by
    have ih := gB_4 n
    funext v m
    rw [X10_both4_5, gB, ← ih]
    rfl
theorem gBl_4 : X10_both4 = gLL X10_not4 (gB X10_not4) := by
  funext m
  unfold X10_both4 gLL
  rw [gB_4]
theorem gE_4 : ∀ n : Nat, X10_either4_5 n = gE X10_both4 n
  | 0 => rfl
  | n + 1 => by
    have ih := gE_4 n
    funext v m
    rw [X10_either4_5, gE, ← ih]
    rfl
theorem gEl_4 : X10_either4 = gLL X10_both4 (gE X10_both4) := by
  funext m
  unfold X10_either4 gLL
  rw [gE_4]
theorem ga_5 : X10_atom5 = gA5 := rfl
theorem gn_5 : X10_not5 = gN5 X10_added5 := rfl
theorem gT_5 : ∀ n : Nat, X10_term5_5 n = gT X10_atom5 n
  | 0 => rfl
  | n + 1 => by
    have ih := gT_5 n
    funext v m
    rw [X10_term5_5, gT, ← ih]
theorem gTl_5 : X10_term5 = gLL X10_atom5 (gT X10_atom5) := by
  funext m
  unfold X10_term5 gLL
  rw [gT_5]
theorem gS_5 : ∀ n : Nat, X10_added5_5 n = gS X10_term5 n
  | 0 => rfl
  | n + 1 => by
    have ih := gS_5 n
    funext v m
    rw [X10_added5_5, gS, ← ih]
    rfl
theorem gSl_5 : X10_added5 = gLL X10_term5 (gS X10_term5) := by
  funext m
  unfold X10_added5 gLL
  rw [gS_5]
theorem gB_5 : ∀ n : Nat, X10_both5_5 n = gB X10_not5 n
  | 0 => rfl
  | n + 1 => by
    have ih := gB_5 n
    funext v m
    rw [X10_both5_5, gB, ← ih]
    rfl
theorem gBl_5 : X10_both5 = gLL X10_not5 (gB X10_not5) := by
  funext m
  unfold X10_both5 gLL
  rw [gB_5]
theorem gE_5 : ∀ n : Nat, X10_either5_5 n = gE X10_both5 n
  | 0 => rfl
  | n + 1 => by
    have ih := gE_5 n
    funext v m
    rw [X10_either5_5, gE, ← ih]
    rfl
theorem gEl_5 : X10_either5 = gLL X10_both5 (gE X10_both5) := by
  funext m
  unfold X10_either5 gLL
  rw [gE_5]
