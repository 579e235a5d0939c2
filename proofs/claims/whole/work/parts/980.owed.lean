def Inv (c nt : Nat) (z : Nat → Nat) (m : Mem) : Prop := True
theorem obl_all : Obl Inv := sorry
theorem obl_start : ob_init Inv := sorry
