def X10_cell (p0 : Int32) (p1 : Int32) (p2 : Int32) (m0 : Mem) : Option (Int32 × Mem) :=
  bi (X10_isSheet p0 m0) fun r1 m1 =>
  if r1 = 0 then
    some ((-2 : Int32), m1)
  else
    if inn p0 4 then
    if (m1.1 75 p0.toNatClampNeg) = 0 then
      some ((-11 : Int32), m1)
    else
      if inn p0 4 then
      bi (X10_in p1.toInt64 (0 : Int64) (((m1.1 77 p0.toNatClampNeg) - (1 : Int32)).toInt64) m1) fun r34 m34 =>
      if r34 = 0 then
        some ((-12 : Int32), m34)
      else
        if inn p0 4 then
        if (m34.1 76 p0.toNatClampNeg) = 0 then
          if inn (((40 : Int32) * p0) + p1) 160 then
          some ((1 : Int32), pI m34 78 (((40 : Int32) * p0) + p1).toNatClampNeg p2.toInt8.toInt32)
          else none
        else
          if inn p0 4 then
          if (m34.1 76 p0.toNatClampNeg) = (1 : Int32) then
            if inn (((40 : Int32) * p0) + p1) 160 then
            some ((1 : Int32), pI m34 78 (((40 : Int32) * p0) + p1).toNatClampNeg p2.toInt16.toInt32)
            else none
          else
            if inn (((40 : Int32) * p0) + p1) 160 then
            some ((1 : Int32), pI m34 78 (((40 : Int32) * p0) + p1).toNatClampNeg p2)
            else none
          else none
        else none
      else none
    else none
abbrev rmX10_cell : Room := { frames := 2, cells := 0, slots := 0, locals := 45 }

set_option maxRecDepth 100000 in
set_option maxHeartbeats 4000000 in
theorem c_X10_cell {l : Launch} {G : GG} {b : Nat} {ad : Nat → Nat} {nt : Nat} {z : Nat → Nat} {p0 : Int32} {p1 : Int32} {p2 : Int32} {m0 : Mem} {r9 : Int32} {m9 : Mem} (hf : X10_cell p0 p1 p2 m0 = some (r9, m9)) : MtI l yX10_cell cX10_cell 4 (some .int) rmX10_cell G b (sg ad nt z) m0 [.ref (ad 63), .int p0, .int p1, .int p2] (pEI r9 (sg ad nt z) m9) := by
  refine mtI_of (by decide) (Nat.le_of_ble_eq_true rfl) .int rfl (fun Γ hG X hnm hr => ?_)
  have hret : ∀ (pc : Nat) (lv : List (Nat × Value)), decode cX10_cell pc = .ok (.ireturn, 1) → narrow .int (.int r9) = .int r9 → Go Γ b (sg ad nt z) 0 0 pc lv [.int r9] m9 := fun pc lv d hn => hr pc lv _ _ _ d ⟨rfl, rfl, rfl⟩ hn
  show Go Γ b (sg ad nt z) 0 0 0 [(0, .ref (ad 63)), (1, .int p0), (2, .int p1), (3, .int p2)] [] m0
  refine g_iload_n X 1 dX10_cell_0 rfl rfl ?_
  obtain ⟨r1, m1, h1, hf⟩ := bi_i hf
  refine g_eSI X [.int p0] kS_X10_413 (c_X10_isSheet h1) dX10_cell_1 rfl rfl ⟨(Nat.le_of_ble_eq_true rfl), (Nat.le_of_ble_eq_true rfl)⟩ ⟨rfl, rfl⟩ ⟨(Nat.zero_le _), (Nat.zero_le _)⟩ (Nat.le_of_ble_eq_true rfl) ?_
  refine g_if_ne X (tgt := 10) dX10_cell_4 (by decide) (fun c4 => ?_) (fun c4 => ?_)
  · have hf := ie c4 hf
    refine g_aload_n X 0 dX10_cell_10 rfl rfl ?_
    refine g_getr X (x := ad 75) 63 9 36 dX10_cell_11 (sgN (by decide)) rfl (by decide) rfl iw_X10 (by decide) rfl q_fl_X10_50 rfl ?_
    refine g_iload_n X 1 dX10_cell_14 rfl rfl ?_
    obtain ⟨h15, hf⟩ := grd hf
    refine g_zald X 75 (n := 4) dX10_cell_15 (sgN (by decide)) rfl rfl h15 ?_
    refine g_if_ne X (tgt := 22) dX10_cell_16 (by decide) (fun c16 => ?_) (fun c16 => ?_)
    · have hf := ie c16 hf
      refine g_iload_n X 2 dX10_cell_22 rfl rfl ?_
      refine g_i2l X dX10_cell_23 ?_
      refine g_lconst X (v := 0) dX10_cell_24 (by decide) ?_
      refine g_aload_n X 0 dX10_cell_25 rfl rfl ?_
      refine g_getr X (x := ad 77) 63 9 38 dX10_cell_26 (sgN (by decide)) rfl (by decide) rfl iw_X10 (by decide) rfl q_fl_X10_57 rfl ?_
      refine g_iload_n X 1 dX10_cell_29 rfl rfl ?_
      obtain ⟨h30, hf⟩ := grd hf
      refine g_iald X 77 (n := 4) dX10_cell_30 (sgN (by decide)) rfl rfl h30 ?_
      refine g_iconst X (v := 1) dX10_cell_31 (by decide) ?_
      refine g_isub X dX10_cell_32 ?_
      refine g_i2l X dX10_cell_33 ?_
      obtain ⟨r34, m34, h34, hf⟩ := bi_i hf
      refine g_eSI X [.long p1.toInt64, .long (0 : Int64), .long (((m1.1 77 p0.toNatClampNeg) - (1 : Int32)).toInt64)] kS_X10_76 (c_X10_in h34) dX10_cell_34 rfl rfl ⟨(Nat.le_of_ble_eq_true rfl), (Nat.le_of_ble_eq_true rfl)⟩ ⟨rfl, rfl⟩ ⟨(Nat.zero_le _), (Nat.zero_le _)⟩ (Nat.le_of_ble_eq_true rfl) ?_
      refine g_if_ne X (tgt := 43) dX10_cell_37 (by decide) (fun c37 => ?_) (fun c37 => ?_)
      · have hf := ie c37 hf
        refine g_aload_n X 0 dX10_cell_43 rfl rfl ?_
        refine g_getr X (x := ad 78) 63 9 39 dX10_cell_44 (sgN (by decide)) rfl (by decide) rfl iw_X10 (by decide) rfl q_fl_X10_60 rfl ?_
        refine g_bipush X (v := 40) dX10_cell_47 (by decide) ?_
        refine g_iload_n X 1 dX10_cell_49 rfl rfl ?_
        refine g_imul X dX10_cell_50 ?_
        refine g_iload_n X 2 dX10_cell_51 rfl rfl ?_
        refine g_iadd X dX10_cell_52 ?_
        refine g_aload_n X 0 dX10_cell_53 rfl rfl ?_
        refine g_getr X (x := ad 76) 63 9 37 dX10_cell_54 (sgN (by decide)) rfl (by decide) rfl iw_X10 (by decide) rfl q_fl_X10_54 rfl ?_
        refine g_iload_n X 1 dX10_cell_57 rfl rfl ?_
        obtain ⟨h58, hf⟩ := grd hf
        refine g_iald X 76 (n := 4) dX10_cell_58 (sgN (by decide)) rfl rfl h58 ?_
        refine g_if_ne X (tgt := 67) dX10_cell_59 (by decide) (fun c59 => ?_) (fun c59 => ?_)
        · have hf := ie c59 hf
          refine g_aload_n X 0 dX10_cell_67 rfl rfl ?_
          refine g_getr X (x := ad 76) 63 9 37 dX10_cell_68 (sgN (by decide)) rfl (by decide) rfl iw_X10 (by decide) rfl q_fl_X10_54 rfl ?_
          refine g_iload_n X 1 dX10_cell_71 rfl rfl ?_
          obtain ⟨h72, hf⟩ := grd hf
          refine g_iald X 76 (n := 4) dX10_cell_72 (sgN (by decide)) rfl rfl h72 ?_
          refine g_iconst X (v := 1) dX10_cell_73 (by decide) ?_
          refine g_icmp_ne X (tgt := 82) dX10_cell_74 (by decide) (fun c74 => ?_) (fun c74 => ?_)
          · have hf := ie c74 hf
            refine g_iload_n X 3 dX10_cell_82 rfl rfl ?_
            obtain ⟨h83, hf⟩ := grd hf
            refine g_iast X 78 (n := 160) dX10_cell_83 (sgN (by decide)) rfl rfl h83 ?_
            refine g_iconst X (v := 1) dX10_cell_84 (by decide) ?_
            obtain ⟨rfl, rfl⟩ := lf2 hf
            exact hret 85 _ dX10_cell_85 rfl
          · have hf := it c74 hf
            refine g_iload_n X 3 dX10_cell_77 rfl rfl ?_
            refine g_i2s X dX10_cell_78 ?_
            refine g_goto X (tgt := 83) dX10_cell_79 (by decide) ?_
            obtain ⟨h83, hf⟩ := grd hf
            refine g_iast X 78 (n := 160) dX10_cell_83 (sgN (by decide)) rfl rfl h83 ?_
            refine g_iconst X (v := 1) dX10_cell_84 (by decide) ?_
            obtain ⟨rfl, rfl⟩ := lf2 hf
            exact hret 85 _ dX10_cell_85 rfl
        · have hf := it c59 hf
          refine g_iload_n X 3 dX10_cell_62 rfl rfl ?_
          refine g_i2b X dX10_cell_63 ?_
          refine g_goto X (tgt := 83) dX10_cell_64 (by decide) ?_
          obtain ⟨h83, hf⟩ := grd hf
          refine g_iast X 78 (n := 160) dX10_cell_83 (sgN (by decide)) rfl rfl h83 ?_
          refine g_iconst X (v := 1) dX10_cell_84 (by decide) ?_
          obtain ⟨rfl, rfl⟩ := lf2 hf
          exact hret 85 _ dX10_cell_85 rfl
      · have hf := it c37 hf
        refine g_bipush X (v := -12) dX10_cell_40 (by decide) ?_
        obtain ⟨rfl, rfl⟩ := lf2 hf
        exact hret 42 _ dX10_cell_42 rfl
    · have hf := it c16 hf
      refine g_bipush X (v := -11) dX10_cell_19 (by decide) ?_
      obtain ⟨rfl, rfl⟩ := lf2 hf
      exact hret 21 _ dX10_cell_21 rfl
  · have hf := it c4 hf
    refine g_bipush X (v := -2) dX10_cell_7 (by decide) ?_
    obtain ⟨rfl, rfl⟩ := lf2 hf
    exact hret 9 _ dX10_cell_9 rfl

def X10_copy_145 (k121 : Int32 → Int32 → Int32 → Int32 → Int32 → Int32 → Int32 → Mem → Option (Int32 × Mem)) (v1 : Int32) (v2 : Int32) (v3 : Int32) (v4 : Int32) (v5 : Int32) (v6 : Int32) (v7 : Int32) (s0 : Int32) (m0 : Mem) : Option (Int32 × Mem) :=
  if inn ((((40 : Int32) * v1) + v2) + s0) 160 then
  if inn ((((40 : Int32) * v3) + v4) + s0) 160 then
  k121 v1 v2 v3 v4 v5 v6 (v7 + (1 : Int32)) (pI m0 78 ((((40 : Int32) * v3) + v4) + s0).toNatClampNeg (m0.1 78 ((((40 : Int32) * v1) + v2) + s0).toNatClampNeg))
  else none
  else none
def X10_copy_121 : Nat → Int32 → Int32 → Int32 → Int32 → Int32 → Int32 → Int32 → Mem → Option (Int32 × Mem)
  | 0, _, _, _, _, _, _, _, _ => none
  | n + 1, v1, v2, v3, v4, v5, v6, v7, m0 =>
    if v5 ≤ v7 then
      some (v5, m0)
    else
      if v6 = 0 then
        X10_copy_145 (X10_copy_121 n) v1 v2 v3 v4 v5 v6 v7 v7 m0
      else
        X10_copy_145 (X10_copy_121 n) v1 v2 v3 v4 v5 v6 v7 ((v5 - (1 : Int32)) - v7) m0
def X10_copy_116 (v1 : Int32) (v2 : Int32) (v3 : Int32) (v4 : Int32) (v5 : Int32) (s0 : Int32) (m0 : Mem) : Option (Int32 × Mem) :=
  X10_copy_121 10000 v1 v2 v3 v4 v5 s0 (0 : Int32) m0
def X10_copy_115 (v1 : Int32) (v2 : Int32) (v3 : Int32) (v4 : Int32) (v5 : Int32) (m0 : Mem) : Option (Int32 × Mem) :=
  X10_copy_116 v1 v2 v3 v4 v5 (0 : Int32) m0
def X10_copy (p0 : Int32) (p1 : Int32) (p2 : Int32) (p3 : Int32) (p4 : Int32) (m0 : Mem) : Option (Int32 × Mem) :=
  bi (X10_isSheet p0 m0) fun r1 m1 =>
  if r1 = 0 then
    some ((-2 : Int32), m1)
  else
    bi (X10_isSheet p2 m1) fun r8 m8 =>
    if r8 = 0 then
      some ((-2 : Int32), m8)
    else
      if inn p0 4 then
      if (m8.1 75 p0.toNatClampNeg) = 0 then
        some ((-11 : Int32), m8)
      else
        if inn p2 4 then
        if (m8.1 75 p2.toNatClampNeg) = 0 then
          some ((-11 : Int32), m8)
        else
          if inn p0 4 then
          if inn p2 4 then
          if (m8.1 76 p0.toNatClampNeg) = (m8.1 76 p2.toNatClampNeg) then
            if p4 < 0 then
              some ((-12 : Int32), m8)
            else
              if p1 < 0 then
                some ((-12 : Int32), m8)
              else
                if p3 < 0 then
                  some ((-12 : Int32), m8)
                else
                  if inn p0 4 then
                  if ((m8.1 77 p0.toNatClampNeg) - p4) < p1 then
                    some ((-12 : Int32), m8)
                  else
                    if inn p2 4 then
                    if p3 ≤ ((m8.1 77 p2.toNatClampNeg) - p4) then
                      if p0 = p2 then
                        if p3 ≤ p1 then
                          X10_copy_115 p0 p1 p2 p3 p4 m8
                        else
                          X10_copy_116 p0 p1 p2 p3 p4 (1 : Int32) m8
                      else
                        X10_copy_115 p0 p1 p2 p3 p4 m8
                    else
                      some ((-12 : Int32), m8)
                    else none
                  else none
          else
            some ((-13 : Int32), m8)
          else none
          else none
        else none
      else none
abbrev rmX10_copy : Room := { frames := 2, cells := 0, slots := 0, locals := 45 }
set_option maxRecDepth 100000 in
set_option maxHeartbeats 4000000 in
theorem w_X10_copy_145 {Γ : Ga} {b : Nat} {ad : Nat → Nat} {nt : Nat} {z : Nat → Nat} {k121 : Int32 → Int32 → Int32 → Int32 → Int32 → Int32 → Int32 → Mem → Option (Int32 × Mem)} {r9 : Int32} {m9 : Mem} (X : Cx Γ b cX10_copy 9 RX10 (some .int) rmX10_copy) (hret : ∀ (pc : Nat) (lv : List (Nat × Value)), decode cX10_copy pc = .ok (.ireturn, 1) → narrow .int (.int r9) = .int r9 → Go Γ b (sg ad nt z) 0 0 pc lv [.int r9] m9) (hk121 : ∀ (v1 : Int32) (v2 : Int32) (v3 : Int32) (v4 : Int32) (v5 : Int32) (v6 : Int32) (v7 : Int32) (m0 : Mem), k121 v1 v2 v3 v4 v5 v6 v7 m0 = some (r9, m9) → Go Γ b (sg ad nt z) 0 0 121 [(0, .ref (ad 63)), (1, .int v1), (2, .int v2), (3, .int v3), (4, .int v4), (5, .int v5), (6, .int v6), (7, .int v7)] [] m0) (v1 : Int32) (v2 : Int32) (v3 : Int32) (v4 : Int32) (v5 : Int32) (v6 : Int32) (v7 : Int32) (s0 : Int32) (m0 : Mem) (hf : X10_copy_145 k121 v1 v2 v3 v4 v5 v6 v7 s0 m0 = some (r9, m9)) : Go Γ b (sg ad nt z) 0 0 145 [(0, .ref (ad 63)), (1, .int v1), (2, .int v2), (3, .int v3), (4, .int v4), (5, .int v5), (6, .int v6), (7, .int v7)] [.int s0] m0 := by
  refine g_istore X (lv' := [(8, .int s0), (0, .ref (ad 63)), (1, .int v1), (2, .int v2), (3, .int v3), (4, .int v4), (5, .int v5), (6, .int v6), (7, .int v7)]) dX10_copy_145 (by decide) rfl ?_
  refine g_aload_n X 1 dX10_copy_147 rfl rfl ?_
  refine g_getr X (x := ad 78) 63 9 39 dX10_copy_148 (sgN (by decide)) rfl (by decide) rfl iw_X10 (by decide) rfl q_fl_X10_60 rfl ?_
  refine g_bipush X (v := 40) dX10_copy_151 (by decide) ?_
  refine g_iload_n X 4 dX10_copy_153 rfl rfl ?_
  refine g_imul X dX10_copy_154 ?_
  refine g_iload X 5 dX10_copy_155 rfl ?_
  refine g_iadd X dX10_copy_157 ?_
  refine g_iload X 0 dX10_copy_158 rfl ?_
  refine g_iadd X dX10_copy_160 ?_
  refine g_aload_n X 1 dX10_copy_161 rfl rfl ?_
  refine g_getr X (x := ad 78) 63 9 39 dX10_copy_162 (sgN (by decide)) rfl (by decide) rfl iw_X10 (by decide) rfl q_fl_X10_60 rfl ?_
  refine g_bipush X (v := 40) dX10_copy_165 (by decide) ?_
  refine g_iload_n X 2 dX10_copy_167 rfl rfl ?_
  refine g_imul X dX10_copy_168 ?_
  refine g_iload_n X 3 dX10_copy_169 rfl rfl ?_
  refine g_iadd X dX10_copy_170 ?_
  refine g_iload X 0 dX10_copy_171 rfl ?_
  refine g_iadd X dX10_copy_173 ?_
  obtain ⟨h174, hf⟩ := grd hf
  refine g_iald X 78 (n := 160) dX10_copy_174 (sgN (by decide)) rfl rfl h174 ?_
  obtain ⟨h175, hf⟩ := grd hf
  refine g_iast X 78 (n := 160) dX10_copy_175 (sgN (by decide)) rfl rfl h175 ?_
  refine g_iinc X 8 (v := v7 + (1 : Int32)) (lv' := [(7, .int (v7 + (1 : Int32))), (8, .int s0), (0, .ref (ad 63)), (1, .int v1), (2, .int v2), (3, .int v3), (4, .int v4), (5, .int v5), (6, .int v6)]) dX10_copy_176 rfl rfl (by decide) rfl ?_
  refine g_goto X (tgt := 121) dX10_copy_179 (by decide) ?_
  refine g_pick [2, 3, 4, 5, 6, 7, 8, 0] (lv' := [(0, .ref (ad 63)), (1, .int v1), (2, .int v2), (3, .int v3), (4, .int v4), (5, .int v5), (6, .int v6), (7, .int (v7 + (1 : Int32)))]) rfl ?_
  exact hk121 v1 v2 v3 v4 v5 v6 (v7 + (1 : Int32)) (pI m0 78 ((((40 : Int32) * v3) + v4) + s0).toNatClampNeg (m0.1 78 ((((40 : Int32) * v1) + v2) + s0).toNatClampNeg)) hf
set_option maxRecDepth 100000 in
set_option maxHeartbeats 4000000 in
theorem w_X10_copy_121 {Γ : Ga} {b : Nat} {ad : Nat → Nat} {nt : Nat} {z : Nat → Nat} {r9 : Int32} {m9 : Mem} (X : Cx Γ b cX10_copy 9 RX10 (some .int) rmX10_copy) (hret : ∀ (pc : Nat) (lv : List (Nat × Value)), decode cX10_copy pc = .ok (.ireturn, 1) → narrow .int (.int r9) = .int r9 → Go Γ b (sg ad nt z) 0 0 pc lv [.int r9] m9) : ∀ (n : Nat) (v1 : Int32) (v2 : Int32) (v3 : Int32) (v4 : Int32) (v5 : Int32) (v6 : Int32) (v7 : Int32) (m0 : Mem), X10_copy_121 n v1 v2 v3 v4 v5 v6 v7 m0 = some (r9, m9) → Go Γ b (sg ad nt z) 0 0 121 [(0, .ref (ad 63)), (1, .int v1), (2, .int v2), (3, .int v3), (4, .int v4), (5, .int v5), (6, .int v6), (7, .int v7)] [] m0 := by
  intro n
  induction n with
  | zero =>
    intro v1 v2 v3 v4 v5 v6 v7 m0 hf
    cases hf
  | succ n ih =>
    intro v1 v2 v3 v4 v5 v6 v7 m0 hf
    refine g_iload X 7 dX10_copy_121 rfl ?_
    refine g_iload X 5 dX10_copy_123 rfl ?_
    refine g_icmp_ge X (tgt := 182) dX10_copy_125 (by decide) (fun c125 => ?_) (fun c125 => ?_)
    · have hf := it c125 hf
      refine g_iload X 5 dX10_copy_182 rfl ?_
      obtain ⟨rfl, rfl⟩ := lf2 hf
      exact hret 184 _ dX10_copy_184 rfl
    · have hf := ie c125 hf
      refine g_iload X 6 dX10_copy_128 rfl ?_
      refine g_if_eq X (tgt := 143) dX10_copy_130 (by decide) (fun c130 => ?_) (fun c130 => ?_)
      · have hf := it c130 hf
        refine g_iload X 7 dX10_copy_143 rfl ?_
        exact w_X10_copy_145 X hret ih v1 v2 v3 v4 v5 v6 v7 v7 m0 hf
      · have hf := ie c130 hf
        refine g_iload X 5 dX10_copy_133 rfl ?_
        refine g_iconst X (v := 1) dX10_copy_135 (by decide) ?_
        refine g_isub X dX10_copy_136 ?_
        refine g_iload X 7 dX10_copy_137 rfl ?_
        refine g_isub X dX10_copy_139 ?_
        refine g_goto X (tgt := 145) dX10_copy_140 (by decide) ?_
        exact w_X10_copy_145 X hret ih v1 v2 v3 v4 v5 v6 v7 ((v5 - (1 : Int32)) - v7) m0 hf
set_option maxRecDepth 100000 in
set_option maxHeartbeats 4000000 in
theorem w_X10_copy_116 {Γ : Ga} {b : Nat} {ad : Nat → Nat} {nt : Nat} {z : Nat → Nat} {r9 : Int32} {m9 : Mem} (X : Cx Γ b cX10_copy 9 RX10 (some .int) rmX10_copy) (hret : ∀ (pc : Nat) (lv : List (Nat × Value)), decode cX10_copy pc = .ok (.ireturn, 1) → narrow .int (.int r9) = .int r9 → Go Γ b (sg ad nt z) 0 0 pc lv [.int r9] m9) (v1 : Int32) (v2 : Int32) (v3 : Int32) (v4 : Int32) (v5 : Int32) (s0 : Int32) (m0 : Mem) (hf : X10_copy_116 v1 v2 v3 v4 v5 s0 m0 = some (r9, m9)) : Go Γ b (sg ad nt z) 0 0 116 [(0, .ref (ad 63)), (1, .int v1), (2, .int v2), (3, .int v3), (4, .int v4), (5, .int v5)] [.int s0] m0 := by
  refine g_istore X (lv' := [(6, .int s0), (0, .ref (ad 63)), (1, .int v1), (2, .int v2), (3, .int v3), (4, .int v4), (5, .int v5)]) dX10_copy_116 (by decide) rfl ?_
  refine g_iconst X (v := 0) dX10_copy_118 (by decide) ?_
  refine g_istore X (lv' := [(7, .int (0 : Int32)), (6, .int s0), (0, .ref (ad 63)), (1, .int v1), (2, .int v2), (3, .int v3), (4, .int v4), (5, .int v5)]) dX10_copy_119 (by decide) rfl ?_
  refine g_pick [2, 3, 4, 5, 6, 7, 1, 0] (lv' := [(0, .ref (ad 63)), (1, .int v1), (2, .int v2), (3, .int v3), (4, .int v4), (5, .int v5), (6, .int s0), (7, .int (0 : Int32))]) rfl ?_
  exact w_X10_copy_121 X hret 10000 v1 v2 v3 v4 v5 s0 (0 : Int32) m0 hf
set_option maxRecDepth 100000 in
set_option maxHeartbeats 4000000 in
theorem w_X10_copy_115 {Γ : Ga} {b : Nat} {ad : Nat → Nat} {nt : Nat} {z : Nat → Nat} {r9 : Int32} {m9 : Mem} (X : Cx Γ b cX10_copy 9 RX10 (some .int) rmX10_copy) (hret : ∀ (pc : Nat) (lv : List (Nat × Value)), decode cX10_copy pc = .ok (.ireturn, 1) → narrow .int (.int r9) = .int r9 → Go Γ b (sg ad nt z) 0 0 pc lv [.int r9] m9) (v1 : Int32) (v2 : Int32) (v3 : Int32) (v4 : Int32) (v5 : Int32) (m0 : Mem) (hf : X10_copy_115 v1 v2 v3 v4 v5 m0 = some (r9, m9)) : Go Γ b (sg ad nt z) 0 0 115 [(0, .ref (ad 63)), (1, .int v1), (2, .int v2), (3, .int v3), (4, .int v4), (5, .int v5)] [] m0 := by
  refine g_iconst X (v := 0) dX10_copy_115 (by decide) ?_
  exact w_X10_copy_116 X hret v1 v2 v3 v4 v5 (0 : Int32) m0 hf
set_option maxRecDepth 100000 in
set_option maxHeartbeats 4000000 in
theorem c_X10_copy {l : Launch} {G : GG} {b : Nat} {ad : Nat → Nat} {nt : Nat} {z : Nat → Nat} {p0 : Int32} {p1 : Int32} {p2 : Int32} {p3 : Int32} {p4 : Int32} {m0 : Mem} {r9 : Int32} {m9 : Mem} (hf : X10_copy p0 p1 p2 p3 p4 m0 = some (r9, m9)) : MtI l yX10_copy cX10_copy 9 (some .int) rmX10_copy G b (sg ad nt z) m0 [.ref (ad 63), .int p0, .int p1, .int p2, .int p3, .int p4] (pEI r9 (sg ad nt z) m9) := by
  refine mtI_of (by decide) (Nat.le_of_ble_eq_true rfl) .int rfl (fun Γ hG X hnm hr => ?_)
  have hret : ∀ (pc : Nat) (lv : List (Nat × Value)), decode cX10_copy pc = .ok (.ireturn, 1) → narrow .int (.int r9) = .int r9 → Go Γ b (sg ad nt z) 0 0 pc lv [.int r9] m9 := fun pc lv d hn => hr pc lv _ _ _ d ⟨rfl, rfl, rfl⟩ hn
  show Go Γ b (sg ad nt z) 0 0 0 [(0, .ref (ad 63)), (1, .int p0), (2, .int p1), (3, .int p2), (4, .int p3), (5, .int p4)] [] m0
  refine g_iload_n X 1 dX10_copy_0 rfl rfl ?_
  obtain ⟨r1, m1, h1, hf⟩ := bi_i hf
  refine g_eSI X [.int p0] kS_X10_413 (c_X10_isSheet h1) dX10_copy_1 rfl rfl ⟨(Nat.le_of_ble_eq_true rfl), (Nat.le_of_ble_eq_true rfl)⟩ ⟨rfl, rfl⟩ ⟨(Nat.zero_le _), (Nat.zero_le _)⟩ (Nat.le_of_ble_eq_true rfl) ?_
  refine g_if_eq X (tgt := 14) dX10_copy_4 (by decide) (fun c4 => ?_) (fun c4 => ?_)
  · have hf := it c4 hf
    refine g_bipush X (v := -2) dX10_copy_14 (by decide) ?_
    obtain ⟨rfl, rfl⟩ := lf2 hf
    exact hret 16 _ dX10_copy_16 rfl
  · have hf := ie c4 hf
    refine g_iload_n X 3 dX10_copy_7 rfl rfl ?_
    obtain ⟨r8, m8, h8, hf⟩ := bi_i hf
    refine g_eSI X [.int p2] kS_X10_413 (c_X10_isSheet h8) dX10_copy_8 rfl rfl ⟨(Nat.le_of_ble_eq_true rfl), (Nat.le_of_ble_eq_true rfl)⟩ ⟨rfl, rfl⟩ ⟨(Nat.zero_le _), (Nat.zero_le _)⟩ (Nat.le_of_ble_eq_true rfl) ?_
    refine g_if_ne X (tgt := 17) dX10_copy_11 (by decide) (fun c11 => ?_) (fun c11 => ?_)
    · have hf := ie c11 hf
      refine g_aload_n X 0 dX10_copy_17 rfl rfl ?_
      refine g_getr X (x := ad 75) 63 9 36 dX10_copy_18 (sgN (by decide)) rfl (by decide) rfl iw_X10 (by decide) rfl q_fl_X10_50 rfl ?_
      refine g_iload_n X 1 dX10_copy_21 rfl rfl ?_
      obtain ⟨h22, hf⟩ := grd hf
      refine g_zald X 75 (n := 4) dX10_copy_22 (sgN (by decide)) rfl rfl h22 ?_
      refine g_if_eq X (tgt := 35) dX10_copy_23 (by decide) (fun c23 => ?_) (fun c23 => ?_)
      · have hf := it c23 hf
        refine g_bipush X (v := -11) dX10_copy_35 (by decide) ?_
        obtain ⟨rfl, rfl⟩ := lf2 hf
        exact hret 37 _ dX10_copy_37 rfl
      · have hf := ie c23 hf
        refine g_aload_n X 0 dX10_copy_26 rfl rfl ?_
        refine g_getr X (x := ad 75) 63 9 36 dX10_copy_27 (sgN (by decide)) rfl (by decide) rfl iw_X10 (by decide) rfl q_fl_X10_50 rfl ?_
        refine g_iload_n X 3 dX10_copy_30 rfl rfl ?_
        obtain ⟨h31, hf⟩ := grd hf
        refine g_zald X 75 (n := 4) dX10_copy_31 (sgN (by decide)) rfl rfl h31 ?_
        refine g_if_ne X (tgt := 38) dX10_copy_32 (by decide) (fun c32 => ?_) (fun c32 => ?_)
        · have hf := ie c32 hf
          refine g_aload_n X 0 dX10_copy_38 rfl rfl ?_
          refine g_getr X (x := ad 76) 63 9 37 dX10_copy_39 (sgN (by decide)) rfl (by decide) rfl iw_X10 (by decide) rfl q_fl_X10_54 rfl ?_
          refine g_iload_n X 1 dX10_copy_42 rfl rfl ?_
          obtain ⟨h43, hf⟩ := grd hf
          refine g_iald X 76 (n := 4) dX10_copy_43 (sgN (by decide)) rfl rfl h43 ?_
          refine g_aload_n X 0 dX10_copy_44 rfl rfl ?_
          refine g_getr X (x := ad 76) 63 9 37 dX10_copy_45 (sgN (by decide)) rfl (by decide) rfl iw_X10 (by decide) rfl q_fl_X10_54 rfl ?_
          refine g_iload_n X 3 dX10_copy_48 rfl rfl ?_
          obtain ⟨h49, hf⟩ := grd hf
          refine g_iald X 76 (n := 4) dX10_copy_49 (sgN (by decide)) rfl rfl h49 ?_
          refine g_icmp_eq X (tgt := 56) dX10_copy_50 (by decide) (fun c50 => ?_) (fun c50 => ?_)
          · have hf := it c50 hf
            refine g_iload X 5 dX10_copy_56 rfl ?_
            refine g_if_lt X (tgt := 97) dX10_copy_58 (by decide) (fun c58 => ?_) (fun c58 => ?_)
            · have hf := it c58 hf
              refine g_bipush X (v := -12) dX10_copy_97 (by decide) ?_
              obtain ⟨rfl, rfl⟩ := lf2 hf
              exact hret 99 _ dX10_copy_99 rfl
            · have hf := ie c58 hf
              refine g_iload_n X 2 dX10_copy_61 rfl rfl ?_
              refine g_if_lt X (tgt := 97) dX10_copy_62 (by decide) (fun c62 => ?_) (fun c62 => ?_)
              · have hf := it c62 hf
                refine g_bipush X (v := -12) dX10_copy_97 (by decide) ?_
                obtain ⟨rfl, rfl⟩ := lf2 hf
                exact hret 99 _ dX10_copy_99 rfl
              · have hf := ie c62 hf
                refine g_iload X 4 dX10_copy_65 rfl ?_
                refine g_if_lt X (tgt := 97) dX10_copy_67 (by decide) (fun c67 => ?_) (fun c67 => ?_)
                · have hf := it c67 hf
                  refine g_bipush X (v := -12) dX10_copy_97 (by decide) ?_
                  obtain ⟨rfl, rfl⟩ := lf2 hf
                  exact hret 99 _ dX10_copy_99 rfl
                · have hf := ie c67 hf
                  refine g_iload_n X 2 dX10_copy_70 rfl rfl ?_
                  refine g_aload_n X 0 dX10_copy_71 rfl rfl ?_
                  refine g_getr X (x := ad 77) 63 9 38 dX10_copy_72 (sgN (by decide)) rfl (by decide) rfl iw_X10 (by decide) rfl q_fl_X10_57 rfl ?_
                  refine g_iload_n X 1 dX10_copy_75 rfl rfl ?_
                  obtain ⟨h76, hf⟩ := grd hf
                  refine g_iald X 77 (n := 4) dX10_copy_76 (sgN (by decide)) rfl rfl h76 ?_
                  refine g_iload X 5 dX10_copy_77 rfl ?_
                  refine g_isub X dX10_copy_79 ?_
                  refine g_icmp_gt X (tgt := 97) dX10_copy_80 (by decide) (fun c80 => ?_) (fun c80 => ?_)
                  · have hf := it c80 hf
                    refine g_bipush X (v := -12) dX10_copy_97 (by decide) ?_
                    obtain ⟨rfl, rfl⟩ := lf2 hf
                    exact hret 99 _ dX10_copy_99 rfl
                  · have hf := ie c80 hf
                    refine g_iload X 4 dX10_copy_83 rfl ?_
                    refine g_aload_n X 0 dX10_copy_85 rfl rfl ?_
                    refine g_getr X (x := ad 77) 63 9 38 dX10_copy_86 (sgN (by decide)) rfl (by decide) rfl iw_X10 (by decide) rfl q_fl_X10_57 rfl ?_
                    refine g_iload_n X 3 dX10_copy_89 rfl rfl ?_
                    obtain ⟨h90, hf⟩ := grd hf
                    refine g_iald X 77 (n := 4) dX10_copy_90 (sgN (by decide)) rfl rfl h90 ?_
                    refine g_iload X 5 dX10_copy_91 rfl ?_
                    refine g_isub X dX10_copy_93 ?_
                    refine g_icmp_le X (tgt := 100) dX10_copy_94 (by decide) (fun c94 => ?_) (fun c94 => ?_)
                    · have hf := it c94 hf
                      refine g_iload_n X 1 dX10_copy_100 rfl rfl ?_
                      refine g_iload_n X 3 dX10_copy_101 rfl rfl ?_
                      refine g_icmp_ne X (tgt := 115) dX10_copy_102 (by decide) (fun c102 => ?_) (fun c102 => ?_)
                      · have hf := ie c102 hf
                        exact w_X10_copy_115 X hret p0 p1 p2 p3 p4 m8 hf
                      · have hf := it c102 hf
                        refine g_iload_n X 2 dX10_copy_105 rfl rfl ?_
                        refine g_iload X 4 dX10_copy_106 rfl ?_
                        refine g_icmp_ge X (tgt := 115) dX10_copy_108 (by decide) (fun c108 => ?_) (fun c108 => ?_)
                        · have hf := it c108 hf
                          exact w_X10_copy_115 X hret p0 p1 p2 p3 p4 m8 hf
                        · have hf := ie c108 hf
                          refine g_iconst X (v := 1) dX10_copy_111 (by decide) ?_
                          refine g_goto X (tgt := 116) dX10_copy_112 (by decide) ?_
                          exact w_X10_copy_116 X hret p0 p1 p2 p3 p4 (1 : Int32) m8 hf
                    · have hf := ie c94 hf
                      refine g_bipush X (v := -12) dX10_copy_97 (by decide) ?_
                      obtain ⟨rfl, rfl⟩ := lf2 hf
                      exact hret 99 _ dX10_copy_99 rfl
          · have hf := ie c50 hf
            refine g_bipush X (v := -13) dX10_copy_53 (by decide) ?_
            obtain ⟨rfl, rfl⟩ := lf2 hf
            exact hret 55 _ dX10_copy_55 rfl
        · have hf := it c32 hf
          refine g_bipush X (v := -11) dX10_copy_35 (by decide) ?_
          obtain ⟨rfl, rfl⟩ := lf2 hf
          exact hret 37 _ dX10_copy_37 rfl
    · have hf := it c11 hf
      refine g_bipush X (v := -2) dX10_copy_14 (by decide) ?_
      obtain ⟨rfl, rfl⟩ := lf2 hf
      exact hret 16 _ dX10_copy_16 rfl

theorem kV_X10_440 : wcV RX10 440 RX10 yX10_person cX10_person 4 (some .int) 3 := ⟨q_ml_X10_440, q_im_yX10_person, q_se_yX10_person, q_in_X10, q_co_yX10_person, by decide +kernel⟩

def X10_people_158 (k75 : Int32 → Int32 → Int32 → Int32 → Int32 → Mem → Option (Int32 × Mem)) (v1 : Int32) (v3 : Int32) (v4 : Int32) (v6 : Int32) (s0 : Int32) (s1 : Int32) (m0 : Mem) : Option (Int32 × Mem) :=
  k75 v1 v3 v4 (s1 + s0) (v6 + (1 : Int32)) m0
def X10_people_75 : Nat → Int32 → Int32 → Int32 → Int32 → Int32 → Mem → Option (Int32 × Mem)
  | 0, _, _, _, _, _, _ => none
  | n + 1, v1, v3, v4, v5, v6, m0 =>
    if v4 ≤ v6 then
      some (v5, m0)
    else
      if v3 < 0 then
        some ((-12 : Int32), m0)
      else
        if inn v1 4 then
        if v3 ≤ (((m0.1 77 v1.toNatClampNeg) - ((3 : Int32) * v6)) - (3 : Int32)) then
          if inn ((((40 : Int32) * v1) + v3) + ((3 : Int32) * v6)) 160 then
          if inn (((((40 : Int32) * v1) + v3) + ((3 : Int32) * v6)) + (1 : Int32)) 160 then
          if inn (((((40 : Int32) * v1) + v3) + ((3 : Int32) * v6)) + (2 : Int32)) 160 then
          bi (X10_person (m0.1 78 ((((40 : Int32) * v1) + v3) + ((3 : Int32) * v6)).toNatClampNeg) (m0.1 78 (((((40 : Int32) * v1) + v3) + ((3 : Int32) * v6)) + (1 : Int32)).toNatClampNeg) (m0.1 78 (((((40 : Int32) * v1) + v3) + ((3 : Int32) * v6)) + (2 : Int32)).toNatClampNeg) m0) fun r147 m147 =>
          if r147 < 0 then
            X10_people_158 (X10_people_75 n) v1 v3 v4 v6 (0 : Int32) v5 m147
          else
            X10_people_158 (X10_people_75 n) v1 v3 v4 v6 (1 : Int32) v5 m147
          else none
          else none
          else none
        else
          some ((-12 : Int32), m0)
        else none
def X10_people_57 (v1 : Int32) (v3 : Int32) (v4 : Int32) (m0 : Mem) : Option (Int32 × Mem) :=
  if inn v1 4 then
  if (m0.1 75 v1.toNatClampNeg) = 0 then
    some ((-11 : Int32), m0)
  else
    X10_people_75 10000 v1 v3 v4 (0 : Int32) (0 : Int32) m0
  else none
def X10_people (p0 : Int32) (p1 : Int32) (p2 : Int32) (p3 : Int32) (m0 : Mem) : Option (Int32 × Mem) :=
  bi (X10_isSheet p0 m0) fun r1 m1 =>
  if r1 = 0 then
    some ((-2 : Int32), m1)
  else
    bi (X10_in p1.toInt64 (0 : Int64) (2 : Int64) m1) fun r13 m13 =>
    if r13 = 0 then
      some ((-2 : Int32), m13)
    else
      bi (X10_in p3.toInt64 (0 : Int64) (6 : Int64) m13) fun r26 m26 =>
      if r26 = 0 then
        some ((-2 : Int32), m26)
      else
        if inn p0 4 then
        if (m26.1 75 p0.toNatClampNeg) = 0 then
          X10_people_57 p0 p2 p3 m26
        else
          if inn p0 4 then
          if (m26.1 76 p0.toNatClampNeg) = p1 then
            X10_people_57 p0 p2 p3 m26
          else
            some ((-13 : Int32), m26)
          else none
        else none
abbrev rmX10_people : Room := { frames := 2, cells := 0, slots := 0, locals := 48 }
set_option maxRecDepth 100000 in
set_option maxHeartbeats 4000000 in
theorem w_X10_people_158 {Γ : Ga} {b : Nat} {ad : Nat → Nat} {nt : Nat} {z : Nat → Nat} {k75 : Int32 → Int32 → Int32 → Int32 → Int32 → Mem → Option (Int32 × Mem)} {r9 : Int32} {m9 : Mem} (X : Cx Γ b cX10_people 8 RX10 (some .int) rmX10_people) (hret : ∀ (pc : Nat) (lv : List (Nat × Value)), decode cX10_people pc = .ok (.ireturn, 1) → narrow .int (.int r9) = .int r9 → Go Γ b (sg ad nt z) 0 0 pc lv [.int r9] m9) (hk75 : ∀ (v1 : Int32) (v3 : Int32) (v4 : Int32) (v5 : Int32) (v6 : Int32) (m0 : Mem), k75 v1 v3 v4 v5 v6 m0 = some (r9, m9) → Go Γ b (sg ad nt z) 0 0 75 [(0, .ref (ad 63)), (1, .int v1), (3, .int v3), (4, .int v4), (5, .int v5), (6, .int v6)] [] m0) (v1 : Int32) (v3 : Int32) (v4 : Int32) (v6 : Int32) (s0 : Int32) (s1 : Int32) (m0 : Mem) (hf : X10_people_158 k75 v1 v3 v4 v6 s0 s1 m0 = some (r9, m9)) : Go Γ b (sg ad nt z) 0 0 158 [(0, .ref (ad 63)), (1, .int v1), (3, .int v3), (4, .int v4), (6, .int v6)] [.int s0, .int s1] m0 := by
  refine g_iadd X dX10_people_158 ?_
  refine g_istore X (lv' := [(5, .int (s1 + s0)), (0, .ref (ad 63)), (1, .int v1), (3, .int v3), (4, .int v4), (6, .int v6)]) dX10_people_159 (by decide) rfl ?_
  refine g_iinc X 5 (v := v6 + (1 : Int32)) (lv' := [(6, .int (v6 + (1 : Int32))), (5, .int (s1 + s0)), (0, .ref (ad 63)), (1, .int v1), (3, .int v3), (4, .int v4)]) dX10_people_161 rfl rfl (by decide) rfl ?_
  refine g_goto X (tgt := 75) dX10_people_164 (by decide) ?_
  refine g_pick [2, 3, 4, 5, 1, 0] (lv' := [(0, .ref (ad 63)), (1, .int v1), (3, .int v3), (4, .int v4), (5, .int (s1 + s0)), (6, .int (v6 + (1 : Int32)))]) rfl ?_
  exact hk75 v1 v3 v4 (s1 + s0) (v6 + (1 : Int32)) m0 hf
set_option maxRecDepth 100000 in
set_option maxHeartbeats 4000000 in
theorem w_X10_people_75 {Γ : Ga} {b : Nat} {ad : Nat → Nat} {nt : Nat} {z : Nat → Nat} {r9 : Int32} {m9 : Mem} (X : Cx Γ b cX10_people 8 RX10 (some .int) rmX10_people) (hret : ∀ (pc : Nat) (lv : List (Nat × Value)), decode cX10_people pc = .ok (.ireturn, 1) → narrow .int (.int r9) = .int r9 → Go Γ b (sg ad nt z) 0 0 pc lv [.int r9] m9) : ∀ (n : Nat) (v1 : Int32) (v3 : Int32) (v4 : Int32) (v5 : Int32) (v6 : Int32) (m0 : Mem), X10_people_75 n v1 v3 v4 v5 v6 m0 = some (r9, m9) → Go Γ b (sg ad nt z) 0 0 75 [(0, .ref (ad 63)), (1, .int v1), (3, .int v3), (4, .int v4), (5, .int v5), (6, .int v6)] [] m0 := by
  intro n
  induction n with
  | zero =>
    intro v1 v3 v4 v5 v6 m0 hf
    cases hf
  | succ n ih =>
    intro v1 v3 v4 v5 v6 m0 hf
    refine g_iload X 5 dX10_people_75 rfl ?_
    refine g_iload X 3 dX10_people_77 rfl ?_
    refine g_icmp_ge X (tgt := 167) dX10_people_79 (by decide) (fun c79 => ?_) (fun c79 => ?_)
    · have hf := it c79 hf
      refine g_iload X 4 dX10_people_167 rfl ?_
      obtain ⟨rfl, rfl⟩ := lf2 hf
      exact hret 169 _ dX10_people_169 rfl
    · have hf := ie c79 hf
      refine g_iload_n X 2 dX10_people_82 rfl rfl ?_
      refine g_if_lt X (tgt := 103) dX10_people_83 (by decide) (fun c83 => ?_) (fun c83 => ?_)
      · have hf := it c83 hf
        refine g_bipush X (v := -12) dX10_people_103 (by decide) ?_
        obtain ⟨rfl, rfl⟩ := lf2 hf
        exact hret 105 _ dX10_people_105 rfl
      · have hf := ie c83 hf
        refine g_iload_n X 2 dX10_people_86 rfl rfl ?_
        refine g_aload_n X 0 dX10_people_87 rfl rfl ?_
        refine g_getr X (x := ad 77) 63 9 38 dX10_people_88 (sgN (by decide)) rfl (by decide) rfl iw_X10 (by decide) rfl q_fl_X10_57 rfl ?_
        refine g_iload_n X 1 dX10_people_91 rfl rfl ?_
        obtain ⟨h92, hf⟩ := grd hf
        refine g_iald X 77 (n := 4) dX10_people_92 (sgN (by decide)) rfl rfl h92 ?_
        refine g_iconst X (v := 3) dX10_people_93 (by decide) ?_
        refine g_iload X 5 dX10_people_94 rfl ?_
        refine g_imul X dX10_people_96 ?_
        refine g_isub X dX10_people_97 ?_
        refine g_iconst X (v := 3) dX10_people_98 (by decide) ?_
        refine g_isub X dX10_people_99 ?_
        refine g_icmp_le X (tgt := 106) dX10_people_100 (by decide) (fun c100 => ?_) (fun c100 => ?_)
        · have hf := it c100 hf
          refine g_bipush X (v := 40) dX10_people_106 (by decide) ?_
          refine g_iload_n X 1 dX10_people_108 rfl rfl ?_
          refine g_imul X dX10_people_109 ?_
          refine g_iload_n X 2 dX10_people_110 rfl rfl ?_
          refine g_iadd X dX10_people_111 ?_
          refine g_iconst X (v := 3) dX10_people_112 (by decide) ?_
          refine g_iload X 5 dX10_people_113 rfl ?_
          refine g_imul X dX10_people_115 ?_
          refine g_iadd X dX10_people_116 ?_
          refine g_istore X (lv' := [(7, .int ((((40 : Int32) * v1) + v3) + ((3 : Int32) * v6))), (0, .ref (ad 63)), (1, .int v1), (3, .int v3), (4, .int v4), (5, .int v5), (6, .int v6)]) dX10_people_117 (by decide) rfl ?_
          refine g_iload X 5 dX10_people_119 rfl ?_
          refine g_aload_n X 1 dX10_people_121 rfl rfl ?_
          refine g_aload_n X 1 dX10_people_122 rfl rfl ?_
          refine g_getr X (x := ad 78) 63 9 39 dX10_people_123 (sgN (by decide)) rfl (by decide) rfl iw_X10 (by decide) rfl q_fl_X10_60 rfl ?_
          refine g_iload X 0 dX10_people_126 rfl ?_
          obtain ⟨h128, hf⟩ := grd hf
          refine g_iald X 78 (n := 160) dX10_people_128 (sgN (by decide)) rfl rfl h128 ?_
          refine g_aload_n X 1 dX10_people_129 rfl rfl ?_
          refine g_getr X (x := ad 78) 63 9 39 dX10_people_130 (sgN (by decide)) rfl (by decide) rfl iw_X10 (by decide) rfl q_fl_X10_60 rfl ?_
          refine g_iload X 0 dX10_people_133 rfl ?_
          refine g_iconst X (v := 1) dX10_people_135 (by decide) ?_
          refine g_iadd X dX10_people_136 ?_
          obtain ⟨h137, hf⟩ := grd hf
          refine g_iald X 78 (n := 160) dX10_people_137 (sgN (by decide)) rfl rfl h137 ?_
          refine g_aload_n X 1 dX10_people_138 rfl rfl ?_
          refine g_getr X (x := ad 78) 63 9 39 dX10_people_139 (sgN (by decide)) rfl (by decide) rfl iw_X10 (by decide) rfl q_fl_X10_60 rfl ?_
          refine g_iload X 0 dX10_people_142 rfl ?_
          refine g_iconst X (v := 2) dX10_people_144 (by decide) ?_
          refine g_iadd X dX10_people_145 ?_
          obtain ⟨h146, hf⟩ := grd hf
          refine g_iald X 78 (n := 160) dX10_people_146 (sgN (by decide)) rfl rfl h146 ?_
          obtain ⟨r147, m147, h147, hf⟩ := bi_i hf
          refine g_eVI X 63 9 [.int (m0.1 78 ((((40 : Int32) * v1) + v3) + ((3 : Int32) * v6)).toNatClampNeg), .int (m0.1 78 (((((40 : Int32) * v1) + v3) + ((3 : Int32) * v6)) + (1 : Int32)).toNatClampNeg), .int (m0.1 78 (((((40 : Int32) * v1) + v3) + ((3 : Int32) * v6)) + (2 : Int32)).toNatClampNeg)] kV_X10_440 (c_X10_person h147) dX10_people_147 rfl rfl (sgN (by decide)) rfl (by decide) rfl rfl ⟨(Nat.le_of_ble_eq_true rfl), (Nat.le_of_ble_eq_true rfl)⟩ ⟨rfl, rfl⟩ ⟨(Nat.zero_le _), (Nat.zero_le _)⟩ (Nat.le_of_ble_eq_true rfl) ?_
          refine g_if_lt X (tgt := 157) dX10_people_150 (by decide) (fun c150 => ?_) (fun c150 => ?_)
          · have hf := it c150 hf
            refine g_iconst X (v := 0) dX10_people_157 (by decide) ?_
            refine g_pick [1, 2, 3, 4, 6] (lv' := [(0, .ref (ad 63)), (1, .int v1), (3, .int v3), (4, .int v4), (6, .int v6)]) rfl ?_
            exact w_X10_people_158 X hret ih v1 v3 v4 v6 (0 : Int32) v5 m147 hf
          · have hf := ie c150 hf
            refine g_iconst X (v := 1) dX10_people_153 (by decide) ?_
            refine g_goto X (tgt := 158) dX10_people_154 (by decide) ?_
            refine g_pick [1, 2, 3, 4, 6] (lv' := [(0, .ref (ad 63)), (1, .int v1), (3, .int v3), (4, .int v4), (6, .int v6)]) rfl ?_
            exact w_X10_people_158 X hret ih v1 v3 v4 v6 (1 : Int32) v5 m147 hf
        · have hf := ie c100 hf
          refine g_bipush X (v := -12) dX10_people_103 (by decide) ?_
          obtain ⟨rfl, rfl⟩ := lf2 hf
          exact hret 105 _ dX10_people_105 rfl
set_option maxRecDepth 100000 in
set_option maxHeartbeats 4000000 in
theorem w_X10_people_57 {Γ : Ga} {b : Nat} {ad : Nat → Nat} {nt : Nat} {z : Nat → Nat} {r9 : Int32} {m9 : Mem} (X : Cx Γ b cX10_people 8 RX10 (some .int) rmX10_people) (hret : ∀ (pc : Nat) (lv : List (Nat × Value)), decode cX10_people pc = .ok (.ireturn, 1) → narrow .int (.int r9) = .int r9 → Go Γ b (sg ad nt z) 0 0 pc lv [.int r9] m9) (v1 : Int32) (v3 : Int32) (v4 : Int32) (m0 : Mem) (hf : X10_people_57 v1 v3 v4 m0 = some (r9, m9)) : Go Γ b (sg ad nt z) 0 0 57 [(0, .ref (ad 63)), (1, .int v1), (3, .int v3), (4, .int v4)] [] m0 := by
  refine g_aload_n X 0 dX10_people_57 rfl rfl ?_
  refine g_getr X (x := ad 75) 63 9 36 dX10_people_58 (sgN (by decide)) rfl (by decide) rfl iw_X10 (by decide) rfl q_fl_X10_50 rfl ?_
  refine g_iload_n X 1 dX10_people_61 rfl rfl ?_
  obtain ⟨h62, hf⟩ := grd hf
  refine g_zald X 75 (n := 4) dX10_people_62 (sgN (by decide)) rfl rfl h62 ?_
  refine g_if_ne X (tgt := 69) dX10_people_63 (by decide) (fun c63 => ?_) (fun c63 => ?_)
  · have hf := ie c63 hf
    refine g_iconst X (v := 0) dX10_people_69 (by decide) ?_
    refine g_istore X (lv' := [(5, .int (0 : Int32)), (0, .ref (ad 63)), (1, .int v1), (3, .int v3), (4, .int v4)]) dX10_people_70 (by decide) rfl ?_
    refine g_iconst X (v := 0) dX10_people_72 (by decide) ?_
    refine g_istore X (lv' := [(6, .int (0 : Int32)), (5, .int (0 : Int32)), (0, .ref (ad 63)), (1, .int v1), (3, .int v3), (4, .int v4)]) dX10_people_73 (by decide) rfl ?_
    refine g_pick [2, 3, 4, 5, 1, 0] (lv' := [(0, .ref (ad 63)), (1, .int v1), (3, .int v3), (4, .int v4), (5, .int (0 : Int32)), (6, .int (0 : Int32))]) rfl ?_
    exact w_X10_people_75 X hret 10000 v1 v3 v4 (0 : Int32) (0 : Int32) m0 hf
  · have hf := it c63 hf
    refine g_bipush X (v := -11) dX10_people_66 (by decide) ?_
    obtain ⟨rfl, rfl⟩ := lf2 hf
    exact hret 68 _ dX10_people_68 rfl
set_option maxRecDepth 100000 in
set_option maxHeartbeats 4000000 in
theorem c_X10_people {l : Launch} {G : GG} {b : Nat} {ad : Nat → Nat} {nt : Nat} {z : Nat → Nat} {p0 : Int32} {p1 : Int32} {p2 : Int32} {p3 : Int32} {m0 : Mem} {r9 : Int32} {m9 : Mem} (hf : X10_people p0 p1 p2 p3 m0 = some (r9, m9)) : MtI l yX10_people cX10_people 8 (some .int) rmX10_people G b (sg ad nt z) m0 [.ref (ad 63), .int p0, .int p1, .int p2, .int p3] (pEI r9 (sg ad nt z) m9) := by
  refine mtI_of (by decide) (Nat.le_of_ble_eq_true rfl) .int rfl (fun Γ hG X hnm hr => ?_)
  have hret : ∀ (pc : Nat) (lv : List (Nat × Value)), decode cX10_people pc = .ok (.ireturn, 1) → narrow .int (.int r9) = .int r9 → Go Γ b (sg ad nt z) 0 0 pc lv [.int r9] m9 := fun pc lv d hn => hr pc lv _ _ _ d ⟨rfl, rfl, rfl⟩ hn
  show Go Γ b (sg ad nt z) 0 0 0 [(0, .ref (ad 63)), (1, .int p0), (2, .int p1), (3, .int p2), (4, .int p3)] [] m0
  refine g_iload_n X 1 dX10_people_0 rfl rfl ?_
  obtain ⟨r1, m1, h1, hf⟩ := bi_i hf
  refine g_eSI X [.int p0] kS_X10_413 (c_X10_isSheet h1) dX10_people_1 rfl rfl ⟨(Nat.le_of_ble_eq_true rfl), (Nat.le_of_ble_eq_true rfl)⟩ ⟨rfl, rfl⟩ ⟨(Nat.zero_le _), (Nat.zero_le _)⟩ (Nat.le_of_ble_eq_true rfl) ?_
  refine g_if_eq X (tgt := 32) dX10_people_4 (by decide) (fun c4 => ?_) (fun c4 => ?_)
  · have hf := it c4 hf
    refine g_bipush X (v := -2) dX10_people_32 (by decide) ?_
    obtain ⟨rfl, rfl⟩ := lf2 hf
    exact hret 34 _ dX10_people_34 rfl
  · have hf := ie c4 hf
    refine g_iload_n X 2 dX10_people_7 rfl rfl ?_
    refine g_i2l X dX10_people_8 ?_
    refine g_lconst X (v := 0) dX10_people_9 (by decide) ?_
    refine g_ldc2 X dX10_people_10 q_cl_X10_436 ?_
    obtain ⟨r13, m13, h13, hf⟩ := bi_i hf
    refine g_eSI X [.long p1.toInt64, .long (0 : Int64), .long (2 : Int64)] kS_X10_76 (c_X10_in h13) dX10_people_13 rfl rfl ⟨(Nat.le_of_ble_eq_true rfl), (Nat.le_of_ble_eq_true rfl)⟩ ⟨rfl, rfl⟩ ⟨(Nat.zero_le _), (Nat.zero_le _)⟩ (Nat.le_of_ble_eq_true rfl) ?_
    refine g_if_eq X (tgt := 32) dX10_people_16 (by decide) (fun c16 => ?_) (fun c16 => ?_)
    · have hf := it c16 hf
      refine g_bipush X (v := -2) dX10_people_32 (by decide) ?_
      obtain ⟨rfl, rfl⟩ := lf2 hf
      exact hret 34 _ dX10_people_34 rfl
    · have hf := ie c16 hf
      refine g_iload X 4 dX10_people_19 rfl ?_
      refine g_i2l X dX10_people_21 ?_
      refine g_lconst X (v := 0) dX10_people_22 (by decide) ?_
      refine g_ldc2 X dX10_people_23 q_cl_X10_438 ?_
      obtain ⟨r26, m26, h26, hf⟩ := bi_i hf
      refine g_eSI X [.long p3.toInt64, .long (0 : Int64), .long (6 : Int64)] kS_X10_76 (c_X10_in h26) dX10_people_26 rfl rfl ⟨(Nat.le_of_ble_eq_true rfl), (Nat.le_of_ble_eq_true rfl)⟩ ⟨rfl, rfl⟩ ⟨(Nat.zero_le _), (Nat.zero_le _)⟩ (Nat.le_of_ble_eq_true rfl) ?_
      refine g_if_ne X (tgt := 35) dX10_people_29 (by decide) (fun c29 => ?_) (fun c29 => ?_)
      · have hf := ie c29 hf
        refine g_aload_n X 0 dX10_people_35 rfl rfl ?_
        refine g_getr X (x := ad 75) 63 9 36 dX10_people_36 (sgN (by decide)) rfl (by decide) rfl iw_X10 (by decide) rfl q_fl_X10_50 rfl ?_
        refine g_iload_n X 1 dX10_people_39 rfl rfl ?_
        obtain ⟨h40, hf⟩ := grd hf
        refine g_zald X 75 (n := 4) dX10_people_40 (sgN (by decide)) rfl rfl h40 ?_
        refine g_if_eq X (tgt := 57) dX10_people_41 (by decide) (fun c41 => ?_) (fun c41 => ?_)
        · have hf := it c41 hf
          refine g_pick [0, 1, 3, 4] (lv' := [(0, .ref (ad 63)), (1, .int p0), (3, .int p2), (4, .int p3)]) rfl ?_
          exact w_X10_people_57 X hret p0 p2 p3 m26 hf
        · have hf := ie c41 hf
          refine g_aload_n X 0 dX10_people_44 rfl rfl ?_
          refine g_getr X (x := ad 76) 63 9 37 dX10_people_45 (sgN (by decide)) rfl (by decide) rfl iw_X10 (by decide) rfl q_fl_X10_54 rfl ?_
          refine g_iload_n X 1 dX10_people_48 rfl rfl ?_
          obtain ⟨h49, hf⟩ := grd hf
          refine g_iald X 76 (n := 4) dX10_people_49 (sgN (by decide)) rfl rfl h49 ?_
          refine g_iload_n X 2 dX10_people_50 rfl rfl ?_
          refine g_icmp_eq X (tgt := 57) dX10_people_51 (by decide) (fun c51 => ?_) (fun c51 => ?_)
          · have hf := it c51 hf
            refine g_pick [0, 1, 3, 4] (lv' := [(0, .ref (ad 63)), (1, .int p0), (3, .int p2), (4, .int p3)]) rfl ?_
            exact w_X10_people_57 X hret p0 p2 p3 m26 hf
          · have hf := ie c51 hf
            refine g_bipush X (v := -13) dX10_people_54 (by decide) ?_
            obtain ⟨rfl, rfl⟩ := lf2 hf
            exact hret 56 _ dX10_people_56 rfl
      · have hf := it c29 hf
        refine g_bipush X (v := -2) dX10_people_32 (by decide) ?_
        obtain ⟨rfl, rfl⟩ := lf2 hf
        exact hret 34 _ dX10_people_34 rfl

def X10_over (p0 : Int32) (m0 : Mem) : Option (Int32 × Mem) :=
  if p0 = 0 then
    some ((-1 : Int32), m0)
  else
    if p0 = (3 : Int32) then
      some ((1 : Int32), m0)
    else
      if p0 = (4 : Int32) then
        some ((2 : Int32), m0)
      else
        some ((0 : Int32), m0)
abbrev rmX10_over : Room := { frames := 0, cells := 0, slots := 0, locals := 0 }

set_option maxRecDepth 100000 in
set_option maxHeartbeats 4000000 in
theorem c_X10_over {l : Launch} {G : GG} {b : Nat} {ad : Nat → Nat} {nt : Nat} {z : Nat → Nat} {p0 : Int32} {m0 : Mem} {r9 : Int32} {m9 : Mem} (hf : X10_over p0 m0 = some (r9, m9)) : MtI l yX10_over cX10_over 1 (some .int) rmX10_over G b (sg ad nt z) m0 [.int p0] (pEI r9 (sg ad nt z) m9) := by
  refine mtI_of (by decide) (Nat.le_of_ble_eq_true rfl) .int rfl (fun Γ hG X hnm hr => ?_)
  have hret : ∀ (pc : Nat) (lv : List (Nat × Value)), decode cX10_over pc = .ok (.ireturn, 1) → narrow .int (.int r9) = .int r9 → Go Γ b (sg ad nt z) 0 0 pc lv [.int r9] m9 := fun pc lv d hn => hr pc lv _ _ _ d ⟨rfl, rfl, rfl⟩ hn
  show Go Γ b (sg ad nt z) 0 0 0 [(0, .int p0)] [] m0
  refine g_iload_n X 0 dX10_over_0 rfl rfl ?_
  refine g_if_ne X (tgt := 8) dX10_over_1 (by decide) (fun c1 => ?_) (fun c1 => ?_)
  · have hf := ie c1 hf
    refine g_iload_n X 0 dX10_over_8 rfl rfl ?_
    refine g_iconst X (v := 3) dX10_over_9 (by decide) ?_
    refine g_icmp_ne X (tgt := 17) dX10_over_10 (by decide) (fun c10 => ?_) (fun c10 => ?_)
    · have hf := ie c10 hf
      refine g_iload_n X 0 dX10_over_17 rfl rfl ?_
      refine g_iconst X (v := 4) dX10_over_18 (by decide) ?_
      refine g_icmp_ne X (tgt := 26) dX10_over_19 (by decide) (fun c19 => ?_) (fun c19 => ?_)
      · have hf := ie c19 hf
        refine g_iconst X (v := 0) dX10_over_26 (by decide) ?_
        obtain ⟨rfl, rfl⟩ := lf2 hf
        exact hret 27 _ dX10_over_27 rfl
      · have hf := it c19 hf
        refine g_iconst X (v := 2) dX10_over_22 (by decide) ?_
        refine g_goto X (tgt := 27) dX10_over_23 (by decide) ?_
        obtain ⟨rfl, rfl⟩ := lf2 hf
        exact hret 27 _ dX10_over_27 rfl
    · have hf := it c10 hf
      refine g_iconst X (v := 1) dX10_over_13 (by decide) ?_
      refine g_goto X (tgt := 27) dX10_over_14 (by decide) ?_
      obtain ⟨rfl, rfl⟩ := lf2 hf
      exact hret 27 _ dX10_over_27 rfl
  · have hf := it c1 hf
    refine g_iconst X (v := -1) dX10_over_4 (by decide) ?_
    refine g_goto X (tgt := 27) dX10_over_5 (by decide) ?_
    obtain ⟨rfl, rfl⟩ := lf2 hf
    exact hret 27 _ dX10_over_27 rfl

theorem kS_X10_443 : wcS RX10 443 yX10_over cX10_over 1 (some .int) 1 := ⟨q_ml_X10_443, q_st_yX10_over, q_in_X10, q_co_yX10_over, by decide +kernel⟩

def X10_taken_51 (v1 : Int32) (v2 : Int32) (v3 : Int32) (m0 : Mem) : Option (Int32 × Mem) :=
  if v3 = v2 then
    if inn ((5 : Int32) * v1) 30 then
    some (m0.1 69 ((5 : Int32) * v1).toNatClampNeg, m0)
    else none
  else
    some ((-13 : Int32), m0)
def X10_taken_33 : Nat → Int32 → Int32 → Int32 → Mem → Option (Int32 × Mem)
  | 0, _, _, _, _ => none
  | n + 1, v1, v2, v3, m0 =>
    if v3 = (-1 : Int32) then
      X10_taken_51 v1 v2 v3 m0
    else
      if v3 = v2 then
        X10_taken_51 v1 v2 v3 m0
      else
        bi (X10_over v3 m0) fun r44 m44 =>
        X10_taken_33 n v1 v2 r44 m44
def X10_taken (p0 : Int32) (p1 : Int32) (m0 : Mem) : Option (Int32 × Mem) :=
  bi (X10_in p1.toInt64 (0 : Int64) (5 : Int64) m0) fun r6 m6 =>
  if r6 = 0 then
    some ((-2 : Int32), m6)
  else
    bi (X10_isOne p0 m6) fun r17 m17 =>
    if r17 = 0 then
      some ((-11 : Int32), m17)
    else
      if inn p0 6 then
      X10_taken_33 10000 p0 p1 (m17.1 68 p0.toNatClampNeg) m17
      else none
abbrev rmX10_taken : Room := { frames := 2, cells := 0, slots := 0, locals := 46 }
set_option maxRecDepth 100000 in
set_option maxHeartbeats 4000000 in
theorem w_X10_taken_51 {Γ : Ga} {b : Nat} {ad : Nat → Nat} {nt : Nat} {z : Nat → Nat} {r9 : Int32} {m9 : Mem} (X : Cx Γ b cX10_taken 4 RX10 (some .int) rmX10_taken) (hret : ∀ (pc : Nat) (lv : List (Nat × Value)), decode cX10_taken pc = .ok (.ireturn, 1) → narrow .int (.int r9) = .int r9 → Go Γ b (sg ad nt z) 0 0 pc lv [.int r9] m9) (v1 : Int32) (v2 : Int32) (v3 : Int32) (m0 : Mem) (hf : X10_taken_51 v1 v2 v3 m0 = some (r9, m9)) : Go Γ b (sg ad nt z) 0 0 51 [(0, .ref (ad 63)), (1, .int v1), (2, .int v2), (3, .int v3)] [] m0 := by
  refine g_iload_n X 3 dX10_taken_51 rfl rfl ?_
  refine g_iload_n X 2 dX10_taken_52 rfl rfl ?_
  refine g_icmp_ne X (tgt := 67) dX10_taken_53 (by decide) (fun c53 => ?_) (fun c53 => ?_)
  · have hf := ie c53 hf
    refine g_bipush X (v := -13) dX10_taken_67 (by decide) ?_
    obtain ⟨rfl, rfl⟩ := lf2 hf
    exact hret 69 _ dX10_taken_69 rfl
  · have hf := it c53 hf
    refine g_aload_n X 0 dX10_taken_56 rfl rfl ?_
    refine g_getr X (x := ad 69) 63 9 10 dX10_taken_57 (sgN (by decide)) rfl (by decide) rfl iw_X10 (by decide) rfl q_fl_X10_29 rfl ?_
    refine g_iconst X (v := 5) dX10_taken_60 (by decide) ?_
    refine g_iload_n X 1 dX10_taken_61 rfl rfl ?_
    refine g_imul X dX10_taken_62 ?_
    obtain ⟨h63, hf⟩ := grd hf
    refine g_iald X 69 (n := 30) dX10_taken_63 (sgN (by decide)) rfl rfl h63 ?_
    refine g_goto X (tgt := 69) dX10_taken_64 (by decide) ?_
    obtain ⟨rfl, rfl⟩ := lf2 hf
    exact hret 69 _ dX10_taken_69 rfl
set_option maxRecDepth 100000 in
set_option maxHeartbeats 4000000 in
theorem w_X10_taken_33 {Γ : Ga} {b : Nat} {ad : Nat → Nat} {nt : Nat} {z : Nat → Nat} {r9 : Int32} {m9 : Mem} (X : Cx Γ b cX10_taken 4 RX10 (some .int) rmX10_taken) (hret : ∀ (pc : Nat) (lv : List (Nat × Value)), decode cX10_taken pc = .ok (.ireturn, 1) → narrow .int (.int r9) = .int r9 → Go Γ b (sg ad nt z) 0 0 pc lv [.int r9] m9) : ∀ (n : Nat) (v1 : Int32) (v2 : Int32) (v3 : Int32) (m0 : Mem), X10_taken_33 n v1 v2 v3 m0 = some (r9, m9) → Go Γ b (sg ad nt z) 0 0 33 [(0, .ref (ad 63)), (1, .int v1), (2, .int v2), (3, .int v3)] [] m0 := by
  intro n
  induction n with
  | zero =>
    intro v1 v2 v3 m0 hf
    cases hf
  | succ n ih =>
    intro v1 v2 v3 m0 hf
    refine g_iload_n X 3 dX10_taken_33 rfl rfl ?_
    refine g_iconst X (v := -1) dX10_taken_34 (by decide) ?_
    refine g_icmp_eq X (tgt := 51) dX10_taken_35 (by decide) (fun c35 => ?_) (fun c35 => ?_)
    · have hf := it c35 hf
      exact w_X10_taken_51 X hret v1 v2 v3 m0 hf
    · have hf := ie c35 hf
      refine g_iload_n X 3 dX10_taken_38 rfl rfl ?_
      refine g_iload_n X 2 dX10_taken_39 rfl rfl ?_
      refine g_icmp_eq X (tgt := 51) dX10_taken_40 (by decide) (fun c40 => ?_) (fun c40 => ?_)
      · have hf := it c40 hf
        exact w_X10_taken_51 X hret v1 v2 v3 m0 hf
      · have hf := ie c40 hf
        refine g_iload_n X 3 dX10_taken_43 rfl rfl ?_
        obtain ⟨r44, m44, h44, hf⟩ := bi_i hf
        refine g_eSI X [.int v3] kS_X10_443 (c_X10_over h44) dX10_taken_44 rfl rfl ⟨(Nat.le_of_ble_eq_true rfl), (Nat.le_of_ble_eq_true rfl)⟩ ⟨rfl, rfl⟩ ⟨(Nat.zero_le _), (Nat.zero_le _)⟩ (Nat.le_of_ble_eq_true rfl) ?_
        refine g_istore_n X (lv' := [(3, .int r44), (0, .ref (ad 63)), (1, .int v1), (2, .int v2)]) dX10_taken_47 rfl (by decide) rfl ?_
        refine g_goto X (tgt := 33) dX10_taken_48 (by decide) ?_
        refine g_pick [1, 2, 3, 0] (lv' := [(0, .ref (ad 63)), (1, .int v1), (2, .int v2), (3, .int r44)]) rfl ?_
        exact ih v1 v2 r44 m44 hf
set_option maxRecDepth 100000 in
set_option maxHeartbeats 4000000 in
theorem c_X10_taken {l : Launch} {G : GG} {b : Nat} {ad : Nat → Nat} {nt : Nat} {z : Nat → Nat} {p0 : Int32} {p1 : Int32} {m0 : Mem} {r9 : Int32} {m9 : Mem} (hf : X10_taken p0 p1 m0 = some (r9, m9)) : MtI l yX10_taken cX10_taken 4 (some .int) rmX10_taken G b (sg ad nt z) m0 [.ref (ad 63), .int p0, .int p1] (pEI r9 (sg ad nt z) m9) := by
  refine mtI_of (by decide) (Nat.le_of_ble_eq_true rfl) .int rfl (fun Γ hG X hnm hr => ?_)
  have hret : ∀ (pc : Nat) (lv : List (Nat × Value)), decode cX10_taken pc = .ok (.ireturn, 1) → narrow .int (.int r9) = .int r9 → Go Γ b (sg ad nt z) 0 0 pc lv [.int r9] m9 := fun pc lv d hn => hr pc lv _ _ _ d ⟨rfl, rfl, rfl⟩ hn
  show Go Γ b (sg ad nt z) 0 0 0 [(0, .ref (ad 63)), (1, .int p0), (2, .int p1)] [] m0
  refine g_iload_n X 2 dX10_taken_0 rfl rfl ?_
  refine g_i2l X dX10_taken_1 ?_
  refine g_lconst X (v := 0) dX10_taken_2 (by decide) ?_
  refine g_ldc2 X dX10_taken_3 q_cl_X10_111 ?_
  obtain ⟨r6, m6, h6, hf⟩ := bi_i hf
  refine g_eSI X [.long p1.toInt64, .long (0 : Int64), .long (5 : Int64)] kS_X10_76 (c_X10_in h6) dX10_taken_6 rfl rfl ⟨(Nat.le_of_ble_eq_true rfl), (Nat.le_of_ble_eq_true rfl)⟩ ⟨rfl, rfl⟩ ⟨(Nat.zero_le _), (Nat.zero_le _)⟩ (Nat.le_of_ble_eq_true rfl) ?_
  refine g_if_ne X (tgt := 15) dX10_taken_9 (by decide) (fun c9 => ?_) (fun c9 => ?_)
  · have hf := ie c9 hf
    refine g_aload_n X 0 dX10_taken_15 rfl rfl ?_
    refine g_iload_n X 1 dX10_taken_16 rfl rfl ?_
    obtain ⟨r17, m17, h17, hf⟩ := bi_i hf
    refine g_eVI X 63 9 [.int p0] kV_X10_84 (c_X10_isOne h17) dX10_taken_17 rfl rfl (sgN (by decide)) rfl (by decide) rfl rfl ⟨(Nat.le_of_ble_eq_true rfl), (Nat.le_of_ble_eq_true rfl)⟩ ⟨rfl, rfl⟩ ⟨(Nat.zero_le _), (Nat.zero_le _)⟩ (Nat.le_of_ble_eq_true rfl) ?_
    refine g_if_ne X (tgt := 26) dX10_taken_20 (by decide) (fun c20 => ?_) (fun c20 => ?_)
    · have hf := ie c20 hf
      refine g_aload_n X 0 dX10_taken_26 rfl rfl ?_
      refine g_getr X (x := ad 68) 63 9 9 dX10_taken_27 (sgN (by decide)) rfl (by decide) rfl iw_X10 (by decide) rfl q_fl_X10_26 rfl ?_
      refine g_iload_n X 1 dX10_taken_30 rfl rfl ?_
      obtain ⟨h31, hf⟩ := grd hf
      refine g_iald X 68 (n := 6) dX10_taken_31 (sgN (by decide)) rfl rfl h31 ?_
      refine g_istore_n X (lv' := [(3, .int (m17.1 68 p0.toNatClampNeg)), (0, .ref (ad 63)), (1, .int p0), (2, .int p1)]) dX10_taken_32 rfl (by decide) rfl ?_
      refine g_pick [1, 2, 3, 0] (lv' := [(0, .ref (ad 63)), (1, .int p0), (2, .int p1), (3, .int (m17.1 68 p0.toNatClampNeg))]) rfl ?_
      exact w_X10_taken_33 X hret 10000 p0 p1 (m17.1 68 p0.toNatClampNeg) m17 hf
    · have hf := it c20 hf
      refine g_bipush X (v := -11) dX10_taken_23 (by decide) ?_
      obtain ⟨rfl, rfl⟩ := lf2 hf
      exact hret 25 _ dX10_taken_25 rfl
  · have hf := it c9 hf
    refine g_bipush X (v := -2) dX10_taken_12 (by decide) ?_
    obtain ⟨rfl, rfl⟩ := lf2 hf
    exact hret 14 _ dX10_taken_14 rfl
