/-! TEXT: the reference's grammar, the same at each depth -/
def gA71 (v1 : Int32) (m0 : Mem) : Option (Int32 × Mem) :=
  if ((pI m0 63 25 ((m0.1 63 25) - (1 : Int32))).1 63 26) = 0 then
    bv (X10_next (pI m0 63 25 ((m0.1 63 25) - (1 : Int32)))) fun m89 => some (v1, m89)
  else some (v1, pI m0 63 25 ((m0.1 63 25) - (1 : Int32)))
def gA157 (v1 : Int32) (m0 : Mem) : Option (Int32 × Mem) := bv (X10_fail m0) fun m158 => some (v1, m158)
def gA123 (v1 : Int32) (m0 : Mem) : Option (Int32 × Mem) :=
  if (m0.1 63 26) = 0 then
    if (m0.1 63 22) = (1 : Int32) then
      bi (X10_name m0) fun r139 m139 =>
      if (m139.1 63 26) = 0 then bv (X10_next m139) fun m151 => some (r139, m151) else some (r139, m139)
    else gA157 v1 m0
  else gA157 v1 m0
def gAr (m40 : Mem) : Option (Int32 × Mem) :=
  if (m40.1 63 26) = 0 then
    if (m40.1 63 22) = (2 : Int32) then bv (X10_next m40) fun m117 => some ((m40.2 63 24).toInt32, m117)
    else gA123 (0 : Int32) m40
  else gA123 (0 : Int32) m40
def gA (E A : Mem → Option (Int32 × Mem)) (m0 : Mem) : Option (Int32 × Mem) :=
  bi (X10_isSign (45 : Int32) m0) fun r5 m5 =>
  if r5 = 0 then
    bi (X10_isSign (40 : Int32) m5) fun r40 m40 =>
    if r40 = 0 then gAr m40
    else
      bi (X10_opens m40) fun r47 m47 =>
      if r47 = 0 then some ((0 : Int32), m47)
      else
        bi (E m47) fun r54 m54 =>
        bi (X10_isSign (41 : Int32) m54) fun r61 m61 =>
        if r61 = 0 then bv (X10_fail m61) fun m68 => gA71 r54 m68
        else gA71 r54 m61
  else
    bi (X10_opens m5) fun r12 m12 =>
    if r12 = 0 then some ((0 : Int32), m12)
    else
      bi (A m12) fun r19 m19 => some (-r19, pI m19 63 25 ((m19.1 63 25) - (1 : Int32)))
/-- at the last depth nothing more is taken in -/
def gA5 (m0 : Mem) : Option (Int32 × Mem) :=
  bi (X10_isSign (45 : Int32) m0) fun r5 m5 =>
  if r5 = 0 then
    bi (X10_isSign (40 : Int32) m5) fun r40 m40 =>
    if r40 = 0 then gAr m40
    else bi (X10_opens m40) fun _ m47 => some ((0 : Int32), m47)
  else bi (X10_opens m5) fun _ m12 => some ((0 : Int32), m12)
def gT (A : Mem → Option (Int32 × Mem)) : Nat → Int32 → Mem → Option (Int32 × Mem)
  | 0, _, _ => none
  | n + 1, v1, m0 =>
    bi (X10_isSign (42 : Int32) m0) fun r8 m8 =>
    if r8 = 0 then some (v1, m8)
    else
      bv (X10_next m8) fun m15 =>
      bi (A m15) fun r20 m20 =>
      gT A n (v1 * r20) m20
def gS39 (T : Mem → Option (Int32 × Mem)) (k5 : Int32 → Mem → Option (Int32 × Mem)) (v1 s0 : Int32) (m0 : Mem) : Option (Int32 × Mem) :=
  bv (X10_next m0) fun m41 =>
  bi (T m41) fun r45 m45 =>
  if s0 = 0 then k5 (v1 - r45) m45 else k5 (v1 + r45) m45
def gS23 (T : Mem → Option (Int32 × Mem)) (k5 : Int32 → Mem → Option (Int32 × Mem)) (v1 : Int32) (m0 : Mem) : Option (Int32 × Mem) :=
  if (lg_cmp (m0.2 63 24) (43 : Int64)) = 0 then gS39 T k5 v1 (1 : Int32) m0 else gS39 T k5 v1 (0 : Int32) m0
def gS (T : Mem → Option (Int32 × Mem)) : Nat → Int32 → Mem → Option (Int32 × Mem)
  | 0, _, _ => none
  | n + 1, v1, m0 =>
    bi (X10_isSign (43 : Int32) m0) fun r8 m8 =>
    if r8 = 0 then
      bi (X10_isSign (45 : Int32) m8) fun r17 m17 =>
      if r17 = 0 then some (v1, m17) else gS23 T (gS T n) v1 m17
    else gS23 T (gS T n) v1 m8
def gN93 (S : Mem → Option (Int32 × Mem)) (v1 s0 : Int32) (m0 : Mem) : Option (Int32 × Mem) :=
  bv (X10_next m0) fun m95 =>
  bi (S m95) fun r99 m99 =>
  if s0 = 0 then
    if v1 = r99 then some ((1 : Int32), m99) else some ((0 : Int32), m99)
  else
    if r99 ≤ v1 then some ((0 : Int32), m99) else some ((1 : Int32), m99)
def gN77 (S : Mem → Option (Int32 × Mem)) (v1 : Int32) (m0 : Mem) : Option (Int32 × Mem) :=
  if (lg_cmp (m0.2 63 24) (60 : Int64)) = 0 then gN93 S v1 (1 : Int32) m0 else gN93 S v1 (0 : Int32) m0
def gNs (S : Mem → Option (Int32 × Mem)) (m12 : Mem) : Option (Int32 × Mem) :=
  bi (S m12) fun r53 m53 =>
  bi (X10_isSign (60 : Int32) m53) fun r60 m60 =>
  if r60 = 0 then
    bi (X10_isSign (61 : Int32) m60) fun r69 m69 =>
    if r69 = 0 then some (r53, m69) else gN77 S r53 m69
  else gN77 S r53 m60
def gN (S N : Mem → Option (Int32 × Mem)) (m0 : Mem) : Option (Int32 × Mem) :=
  bi (X10_isWord (110 : Int32) (111 : Int32) (116 : Int32) (0 : Int32) (0 : Int32) (0 : Int32) (0 : Int32) (0 : Int32) m0) fun r12 m12 =>
  if r12 = 0 then gNs S m12
  else
    bi (X10_opens m12) fun r19 m19 =>
    if r19 = 0 then some ((0 : Int32), m19)
    else
      bi (N m19) fun r28 m28 =>
      if r28 = 0 then some ((1 : Int32), pI m28 63 25 ((m28.1 63 25) - (1 : Int32)))
      else some ((0 : Int32), pI m28 63 25 ((m28.1 63 25) - (1 : Int32)))
def gN5 (S : Mem → Option (Int32 × Mem)) (m0 : Mem) : Option (Int32 × Mem) :=
  bi (X10_isWord (110 : Int32) (111 : Int32) (116 : Int32) (0 : Int32) (0 : Int32) (0 : Int32) (0 : Int32) (0 : Int32) m0) fun r12 m12 =>
  if r12 = 0 then gNs S m12
  else bi (X10_opens m12) fun _ m19 => some ((0 : Int32), m19)
def gB (N : Mem → Option (Int32 × Mem)) : Nat → Int32 → Mem → Option (Int32 × Mem)
  | 0, _, _ => none
  | n + 1, v1, m0 =>
    bi (X10_isWord (97 : Int32) (110 : Int32) (100 : Int32) (0 : Int32) (0 : Int32) (0 : Int32) (0 : Int32) (0 : Int32) m0) fun r17 m17 =>
    if r17 = 0 then some (v1, m17)
    else
      bv (X10_next m17) fun m24 =>
      bi (N m24) fun r28 m28 =>
      if v1 = 0 then gB N n 0 m28
      else if r28 = 0 then gB N n 0 m28 else gB N n (1 : Int32) m28
def gE (B : Mem → Option (Int32 × Mem)) : Nat → Int32 → Mem → Option (Int32 × Mem)
  | 0, _, _ => none
  | n + 1, v1, m0 =>
    bi (X10_isWord (111 : Int32) (114 : Int32) (0 : Int32) (0 : Int32) (0 : Int32) (0 : Int32) (0 : Int32) (0 : Int32) m0) fun r16 m16 =>
    if r16 = 0 then some (v1, m16)
    else
      bv (X10_next m16) fun m23 =>
      bi (B m23) fun r27 m27 =>
      if v1 = 0 then (if r27 = 0 then gE B n (0 : Int32) m27 else gE B n (1 : Int32) m27)
      else gE B n (1 : Int32) m27
def gLL (A : Mem → Option (Int32 × Mem)) (G : Nat → Int32 → Mem → Option (Int32 × Mem)) (m0 : Mem) : Option (Int32 × Mem) := bi (A m0) fun r1 m1 => G 10000 r1 m1
