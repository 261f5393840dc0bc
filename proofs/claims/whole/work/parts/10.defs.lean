theorem ic_cat (x : Int32) : (Value.int x).category = 1 := rfl
theorem ifs {c : Prop} [Decidable c] {α : Type} {a : Option α} {o : α} (h : (if c then a else none) = some o) : c ∧ a = some o := by
  by_cases hc : c
  · rw [if_pos hc] at h; exact ⟨hc, h⟩
  · rw [if_neg hc] at h; cases h
theorem ifn {c : Prop} [Decidable c] {α : Type} {a : Option α} {o : α} (h : (if c then none else a) = some o) : ¬ c ∧ a = some o := by
  by_cases hc : c
  · rw [if_pos hc] at h; cases h
  · rw [if_neg hc] at h; exact ⟨hc, h⟩
def fX4_init (N : Nat) (h : Hp) (sz : Nat) (l0 : Option Nat) : Option (Hp × Nat) :=
  if l0 = none then none else
  (pV (up h sz (oI 0 100 (fun _ => 0))) l0 4 0 (va_rf (some sz))).bind fun h9 =>
  (pV h9 l0 4 1 (.int (0 : Int32))).bind fun h14 =>
  (pV h14 l0 4 2 (.int (0 : Int32))).bind fun h19 =>
  (pV h19 l0 4 3 (.int (0 : Int32))).bind fun h24 =>
  (pV h24 l0 4 4 (.int (0 : Int32))).bind fun h29 =>
  (pV h29 l0 4 5 (.int (0 : Int32))).bind fun h34 =>
  some (h34, sz + 1)
def fX3_init (N : Nat) (h : Hp) (sz : Nat) (l0 : Option Nat) : Option (Hp × Nat) :=
  if l0 = none then none else
  (pV (up h sz (oI 0 6 (fun _ => 0))) l0 3 0 (va_rf (some sz))).bind fun h9 =>
  (pV (up h9 (sz + 1) (oI 1 6 (fun _ => 0))) l0 3 1 (va_rf (some (sz + 1)))).bind fun h17 =>
  (pV h17 l0 3 2 (.int (0 : Int32))).bind fun h22 =>
  some (h22, (sz + 1) + 1)
def fX0_init (N : Nat) (h : Hp) (sz : Nat) (l0 : Option Nat) : Option (Hp × Nat) :=
  if l0 = none then none else
  (pV (up h sz (oI 0 4 (fun _ => 0))) l0 0 0 (va_rf (some sz))).bind fun h8 =>
  (pV (up h8 (sz + 1) (oI 0 6 (fun _ => 0))) l0 0 1 (va_rf (some (sz + 1)))).bind fun h16 =>
  (pV (up h16 ((sz + 1) + 1) (oI 0 4 (fun _ => 0))) l0 0 2 (va_rf (some ((sz + 1) + 1)))).bind fun h23 =>
  (pV h23 l0 0 3 (.int (0 : Int32))).bind fun h28 =>
  (pV h28 l0 0 4 (.int (0 : Int32))).bind fun h33 =>
  (pV h33 l0 0 5 (.int (0 : Int32))).bind fun h38 =>
  some (h38, ((sz + 1) + 1) + 1)
def fX2_init (N : Nat) (h : Hp) (l0 : Option Nat) (l1 : Int32) (l2 : Option Nat) (l3 : Option Nat) : Option (Hp) :=
  if l0 = none then none else
  (pV h l0 2 0 (.int l1)).bind fun h6 =>
  (pV h6 l0 2 1 (va_rf l2)).bind fun h11 =>
  (pV h11 l0 2 2 (va_rf l3)).bind fun h16 =>
  some h16
def fX8_init (N : Nat) (h : Hp) (sz : Nat) (l0 : Option Nat) : Option (Hp × Nat) :=
  if l0 = none then none else
  (pV (up h sz (oA 3 10 (fun _ => none))) l0 8 0 (va_rf (some sz))).bind fun h10 =>
  (pV h10 l0 8 1 (.int (0 : Int32))).bind fun h15 =>
  some (h15, sz + 1)
def fX5_init (N : Nat) (h : Hp) (sz : Nat) (l0 : Option Nat) : Option (Hp × Nat) :=
  if l0 = none then none else
  (fX4_init N (up h sz (oO 4 [.null, .int 0, .int 0, .int 0, .int 0, .int 0])) (sz + 1) (some sz)).bind fun z9 =>
  (pV z9.1 l0 5 0 (va_rf (some sz))).bind fun h12 =>
  (fX3_init N (up h12 z9.2 (oO 3 [.null, .null, .int 0])) (z9.2 + 1) (some z9.2)).bind fun z20 =>
  (pV z20.1 l0 5 1 (va_rf (some z9.2))).bind fun h23 =>
  (fX0_init N (up h23 z20.2 (oO 0 [.null, .null, .null, .int 0, .int 0, .int 0])) (z20.2 + 1) (some z20.2)).bind fun z31 =>
  (pV z31.1 l0 5 2 (va_rf (some z20.2))).bind fun h34 =>
  (fX2_init N (up (up (up h34 z31.2 (oO 2 [.int 0, .null, .null])) (z31.2 + 1) (oI 0 0 (fun _ => 0))) ((z31.2 + 1) + 1) (oA 2 0 (fun _ => none))) (some z31.2) (0 : Int32) (some (z31.2 + 1)) (some ((z31.2 + 1) + 1))).bind fun z50 =>
  (pV z50 l0 5 3 (va_rf (some z31.2))).bind fun h53 =>
  (fX8_init N (up h53 (((z31.2 + 1) + 1) + 1) (oO 8 [.null, .int 0])) ((((z31.2 + 1) + 1) + 1) + 1) (some (((z31.2 + 1) + 1) + 1))).bind fun z61 =>
  (pV z61.1 l0 5 4 (va_rf (some (((z31.2 + 1) + 1) + 1)))).bind fun h64 =>
  (pV (up h64 z61.2 (oA 8 2 (fun _ => none))) l0 5 5 (va_rf (some z61.2))).bind fun h72 =>
  (pV h72 l0 5 6 (.long (0 : Int64))).bind fun h77 =>
  (pV (up h77 (z61.2 + 1) (oI 0 360 (fun _ => 0))) l0 5 7 (va_rf (some (z61.2 + 1)))).bind fun h86 =>
  (pV (up h86 ((z61.2 + 1) + 1) (oI 0 120 (fun _ => 0))) l0 5 8 (va_rf (some ((z61.2 + 1) + 1)))).bind fun h94 =>
  (pV (up h94 (((z61.2 + 1) + 1) + 1) (oI 0 1000 (fun _ => 0))) l0 5 9 (va_rf (some (((z61.2 + 1) + 1) + 1)))).bind fun h103 =>
  (pV h103 l0 5 10 (.int (0 : Int32))).bind fun h108 =>
  some (h108, (((z61.2 + 1) + 1) + 1) + 1)
def fX6_init (N : Nat) (h : Hp) (sz : Nat) (l0 : Option Nat) : Option (Hp × Nat) :=
  if l0 = none then none else
  (pV (up h sz (oI 0 4 (fun _ => 0))) l0 6 3 (va_rf (some sz))).bind fun h8 =>
  (pV (up h8 (sz + 1) (oI 0 6 (fun _ => 0))) l0 6 4 (va_rf (some (sz + 1)))).bind fun h16 =>
  (pV (up h16 ((sz + 1) + 1) (oI 0 4 (fun _ => 0))) l0 6 7 (va_rf (some ((sz + 1) + 1)))).bind fun h23 =>
  (pV (up h23 (((sz + 1) + 1) + 1) (oI 0 72 (fun _ => 0))) l0 6 8 (va_rf (some (((sz + 1) + 1) + 1)))).bind fun h31 =>
  (pV (up h31 ((((sz + 1) + 1) + 1) + 1) (oI 0 6 (fun _ => 0))) l0 6 10 (va_rf (some ((((sz + 1) + 1) + 1) + 1)))).bind fun h39 =>
  (pV (up h39 (((((sz + 1) + 1) + 1) + 1) + 1) (oI 0 6 (fun _ => 0))) l0 6 11 (va_rf (some (((((sz + 1) + 1) + 1) + 1) + 1)))).bind fun h47 =>
  (pV (up h47 ((((((sz + 1) + 1) + 1) + 1) + 1) + 1) (oI 0 100 (fun _ => 0))) l0 6 13 (va_rf (some ((((((sz + 1) + 1) + 1) + 1) + 1) + 1)))).bind fun h55 =>
  (pV (up h55 (((((((sz + 1) + 1) + 1) + 1) + 1) + 1) + 1) (oI 0 4 (fun _ => 0))) l0 6 20 (va_rf (some (((((((sz + 1) + 1) + 1) + 1) + 1) + 1) + 1)))).bind fun h62 =>
  (pV (up h62 ((((((((sz + 1) + 1) + 1) + 1) + 1) + 1) + 1) + 1) (oI 0 6 (fun _ => 0))) l0 6 21 (va_rf (some ((((((((sz + 1) + 1) + 1) + 1) + 1) + 1) + 1) + 1)))).bind fun h70 =>
  (pV (up h70 (((((((((sz + 1) + 1) + 1) + 1) + 1) + 1) + 1) + 1) + 1) (oI 0 4 (fun _ => 0))) l0 6 22 (va_rf (some (((((((((sz + 1) + 1) + 1) + 1) + 1) + 1) + 1) + 1) + 1)))).bind fun h77 =>
  (pV (up h77 ((((((((((sz + 1) + 1) + 1) + 1) + 1) + 1) + 1) + 1) + 1) + 1) (oI 0 780 (fun _ => 0))) l0 6 23 (va_rf (some ((((((((((sz + 1) + 1) + 1) + 1) + 1) + 1) + 1) + 1) + 1) + 1)))).bind fun h86 =>
  (pV (up h86 (((((((((((sz + 1) + 1) + 1) + 1) + 1) + 1) + 1) + 1) + 1) + 1) + 1) (oI 0 3240 (fun _ => 0))) l0 6 25 (va_rf (some (((((((((((sz + 1) + 1) + 1) + 1) + 1) + 1) + 1) + 1) + 1) + 1) + 1)))).bind fun h95 =>
  (pV (up h95 ((((((((((((sz + 1) + 1) + 1) + 1) + 1) + 1) + 1) + 1) + 1) + 1) + 1) + 1) (oI 0 120 (fun _ => 0))) l0 6 26 (va_rf (some ((((((((((((sz + 1) + 1) + 1) + 1) + 1) + 1) + 1) + 1) + 1) + 1) + 1) + 1)))).bind fun h103 =>
  (pV (up h103 (((((((((((((sz + 1) + 1) + 1) + 1) + 1) + 1) + 1) + 1) + 1) + 1) + 1) + 1) + 1) (oI 0 1000 (fun _ => 0))) l0 6 27 (va_rf (some (((((((((((((sz + 1) + 1) + 1) + 1) + 1) + 1) + 1) + 1) + 1) + 1) + 1) + 1) + 1)))).bind fun h112 =>
  (pV (up h112 ((((((((((((((sz + 1) + 1) + 1) + 1) + 1) + 1) + 1) + 1) + 1) + 1) + 1) + 1) + 1) + 1) (oI 0 120 (fun _ => 0))) l0 6 28 (va_rf (some ((((((((((((((sz + 1) + 1) + 1) + 1) + 1) + 1) + 1) + 1) + 1) + 1) + 1) + 1) + 1) + 1)))).bind fun h120 =>
  (pV (up h120 (((((((((((((((sz + 1) + 1) + 1) + 1) + 1) + 1) + 1) + 1) + 1) + 1) + 1) + 1) + 1) + 1) + 1) (oI 0 1720 (fun _ => 0))) l0 6 29 (va_rf (some (((((((((((((((sz + 1) + 1) + 1) + 1) + 1) + 1) + 1) + 1) + 1) + 1) + 1) + 1) + 1) + 1) + 1)))).bind fun h129 =>
  some (h129, (((((((((((((((sz + 1) + 1) + 1) + 1) + 1) + 1) + 1) + 1) + 1) + 1) + 1) + 1) + 1) + 1) + 1) + 1)
def fX5_within (N : Nat) (h : Hp) (l0 : Int32) (l1 : Int32) (l2 : Int32) : Option (Int32) :=
  if l0 < l1 then
    some (0 : Int32)
  else
    if l2 < l0 then
      some (0 : Int32)
    else
      some (1 : Int32)
def fX4_adds (N : Nat) (h : Hp) (l0 : Option Nat) (l1 : Int32) : Option (Int32 × Hp) :=
  (gI h l0 4 1).bind fun v1 =>
  if v1 < (100 : Int32) then
    (gA h l0 4 0).bind fun v12 =>
    (gI h l0 4 1).bind fun v16 =>
    (wI h v12 0 v16 l1).bind fun h20 =>
    (gI h20 l0 4 1).bind fun v23 =>
    (pV h20 l0 4 1 (.int (v23 + (1 : Int32)))).bind fun h28 =>
    some ((1 : Int32), h28)
  else
    some ((0 : Int32), h)
def fX5_type (N : Nat) (h : Hp) (l0 : Option Nat) (l1 : Int32) : Option (Int32 × Hp) :=
  (fX5_within N h l1 (0 : Int32) (255 : Int32)).bind fun v5 =>
  if v5 = 0 then
    some ((-1 : Int32), h)
  else
    (gA h l0 5 0).bind fun v14 =>
    if isO h v14 4 = true then
    (fX4_adds N h v14 l1).bind fun z18 =>
      if z18.1 = 0 then
        some ((-3 : Int32), z18.2)
      else
        (gA z18.2 l0 5 0).bind fun v25 =>
        (gI z18.2 v25 4 1).bind fun v28 =>
        some (v28, z18.2)
    else none
def fX6_in (N : Nat) (h : Hp) (l0 : Int32) (l1 : Int32) (l2 : Int32) : Option (Int32) :=
  if l0 < l1 then
    some (0 : Int32)
  else
    if l2 < l0 then
      some (0 : Int32)
    else
      some (1 : Int32)
def fX6_type (N : Nat) (h : Hp) (l0 : Option Nat) (l1 : Int32) : Option (Int32 × Hp) :=
  (fX6_in N h l1 (0 : Int32) (255 : Int32)).bind fun v5 =>
  if v5 = 0 then
    some ((-1 : Int32), h)
  else
    (gI h l0 6 14).bind fun v14 =>
    if v14 = (100 : Int32) then
      some ((-3 : Int32), h)
    else
      (gA h l0 6 13).bind fun v26 =>
      (gI h l0 6 14).bind fun v30 =>
      (wI h v26 0 v30 l1).bind fun h34 =>
      (gI h34 l0 6 14).bind fun v37 =>
      (pV h34 l0 6 14 (.int (v37 + (1 : Int32)))).bind fun h42 =>
      (gI h42 l0 6 14).bind fun v46 =>
      some (v46, h42)
def fX4_empties (N : Nat) (h : Hp) (l0 : Option Nat) : Option (Int32 × Hp) :=
  (gI h l0 4 1).bind fun v1 =>
  (pV h l0 4 1 (.int (0 : Int32))).bind fun h7 =>
  some (v1, h7)
def fX5_clear (N : Nat) (h : Hp) (l0 : Option Nat) : Option (Int32 × Hp) :=
  (gA h l0 5 0).bind fun v1 =>
  if isO h v1 4 = true then
  (fX4_empties N h v1).bind fun z4 =>
    some (z4.1, z4.2)
  else none
def fX6_clear (N : Nat) (h : Hp) (l0 : Option Nat) : Option (Int32 × Hp) :=
  (gI h l0 6 14).bind fun v1 =>
  (pV h l0 6 14 (.int (0 : Int32))).bind fun h7 =>
  some (v1, h7)
def fX4_byteAt (N : Nat) (h : Hp) (l0 : Option Nat) (l1 : Int32) : Option (Int32) :=
  if l1 < 0 then
    some (0 : Int32)
  else
    (gI h l0 4 1).bind fun v6 =>
    if v6 ≤ l1 then
      some (0 : Int32)
    else
      (gA h l0 4 0).bind fun v13 =>
      (rI h v13 0 l1).bind fun v17 =>
      some v17
def fX4_isLetter (N : Nat) (h : Hp) (l0 : Int32) : Option (Int32) :=
  if l0 < (97 : Int32) then
    some (0 : Int32)
  else
    if (122 : Int32) < l0 then
      some (0 : Int32)
    else
      some (1 : Int32)
def fX4_readLetters_L0 {α : Type} (N : Nat) (K38 : Hp → Option Nat → Option α) : Nat → Hp → Option Nat → Option α
  | 0, _, _ => none
  | n + 1, h, l0 =>
    (gI h l0 4 3).bind fun v1 =>
    (gI h l0 4 1).bind fun v5 =>
    if v5 ≤ v1 then
      K38 h l0
    else
      (gI h l0 4 3).bind fun v13 =>
      if isO h l0 4 = true then
      (fX4_byteAt N h l0 v13).bind fun v16 =>
        (fX4_isLetter N h v16).bind fun v19 =>
        if v19 = 0 then
          K38 h l0
        else
          (gI h l0 4 3).bind fun v27 =>
          (pV h l0 4 3 (.int (v27 + (1 : Int32)))).bind fun h32 =>
          fX4_readLetters_L0 N K38 n h32 l0
      else none
def fX4_readLetters_j38 (N : Nat) (h : Hp) (l0 : Option Nat) : Option (Hp) :=
  (pV h l0 4 4 (.int (1 : Int32))).bind fun h40 =>
  (gI h40 l0 4 3).bind fun v45 =>
  (gI h40 l0 4 2).bind fun v49 =>
  if (v45 - v49) = (1 : Int32) then
    (gI h40 l0 4 2).bind fun v59 =>
    if isO h40 l0 4 = true then
    (fX4_byteAt N h40 l0 v59).bind fun v62 =>
      (pV h40 l0 4 5 (.int v62)).bind fun h69 =>
      some h69
    else none
  else
    (pV h40 l0 4 5 (.int (0 : Int32))).bind fun h69 =>
    some h69
def fX4_readLetters (N : Nat) (h : Hp) (l0 : Option Nat) : Option (Hp) :=
  fX4_readLetters_L0 N
    (fun h l0 =>
      fX4_readLetters_j38 N h l0)
    N h l0
def fX4_isDigit (N : Nat) (h : Hp) (l0 : Int32) : Option (Int32) :=
  if l0 < (48 : Int32) then
    some (0 : Int32)
  else
    if (57 : Int32) < l0 then
      some (0 : Int32)
    else
      some (1 : Int32)
def fX4_readNumber_L5 {α : Type} (N : Nat) (K72 : Hp → Option Nat → Option α) : Nat → Hp → Option Nat → Option α
  | 0, _, _ => none
  | n + 1, h, l0 =>
    (gI h l0 4 3).bind fun v6 =>
    (gI h l0 4 1).bind fun v10 =>
    if v10 ≤ v6 then
      K72 h l0
    else
      (gI h l0 4 3).bind fun v18 =>
      if isO h l0 4 = true then
      (fX4_byteAt N h l0 v18).bind fun v21 =>
        (fX4_isDigit N h v21).bind fun v24 =>
        if v24 = 0 then
          K72 h l0
        else
          (gI h l0 4 5).bind fun v34 =>
          (gI h l0 4 3).bind fun v40 =>
          if isO h l0 4 = true then
          (fX4_byteAt N h l0 v40).bind fun v43 =>
            (pV h l0 4 5 (.int (jmin ((((10 : Int32) * v34) + v43) - (48 : Int32)) (1000 : Int32)))).bind fun h56 =>
            (gI h56 l0 4 3).bind fun v61 =>
            (pV h56 l0 4 3 (.int (v61 + (1 : Int32)))).bind fun h66 =>
            fX4_readNumber_L5 N K72 n h66 l0
          else none
      else none
def fX4_readNumber_j103 (N : Nat) (h : Hp) (l0 : Option Nat) (s0 : Int32) : Option (Hp) :=
  if s0 = 0 then
    (gI h l0 4 5).bind fun v110 =>
    if v110 ≤ (999 : Int32) then
      (pV h l0 4 4 (.int (2 : Int32))).bind fun h124 =>
      some h124
    else
      (pV h l0 4 4 (.int (4 : Int32))).bind fun h124 =>
      some h124
  else
    (pV h l0 4 4 (.int (4 : Int32))).bind fun h124 =>
    some h124
def fX4_readNumber_j72 (N : Nat) (h : Hp) (l0 : Option Nat) : Option (Hp) :=
  (gI h l0 4 2).bind fun v74 =>
  if isO h l0 4 = true then
  (fX4_byteAt N h l0 v74).bind fun v77 =>
    if v77 = (48 : Int32) then
      (gI h l0 4 3).bind fun v86 =>
      (gI h l0 4 2).bind fun v90 =>
      if (v86 - v90) ≤ (1 : Int32) then
        fX4_readNumber_j103 N h l0 (0 : Int32)
      else
        fX4_readNumber_j103 N h l0 (1 : Int32)
    else
      fX4_readNumber_j103 N h l0 (0 : Int32)
  else none
def fX4_readNumber (N : Nat) (h : Hp) (l0 : Option Nat) : Option (Hp) :=
  (pV h l0 4 5 (.int (0 : Int32))).bind fun h2 =>
  fX4_readNumber_L5 N
    (fun h l0 =>
      fX4_readNumber_j72 N h l0)
    N h2 l0
def fX4_readToken_L0 {α : Type} (N : Nat) (K37 : Hp → Option Nat → Option α) : Nat → Hp → Option Nat → Option α
  | 0, _, _ => none
  | n + 1, h, l0 =>
    (gI h l0 4 3).bind fun v1 =>
    (gI h l0 4 1).bind fun v5 =>
    if v5 ≤ v1 then
      K37 h l0
    else
      (gI h l0 4 3).bind fun v13 =>
      if isO h l0 4 = true then
      (fX4_byteAt N h l0 v13).bind fun v16 =>
        if v16 = (32 : Int32) then
          (gI h l0 4 3).bind fun v26 =>
          (pV h l0 4 3 (.int (v26 + (1 : Int32)))).bind fun h31 =>
          fX4_readToken_L0 N K37 n h31 l0
        else
          K37 h l0
      else none
def fX4_readToken_j113 (N : Nat) (h : Hp) (l0 : Option Nat) (s0 : Int32) (s1 : Option Nat) : Option (Hp) :=
  (pV h s1 4 4 (.int s0)).bind fun h113 =>
  (gI h113 l0 4 3).bind fun v118 =>
  (pV h113 l0 4 3 (.int (v118 + (1 : Int32)))).bind fun h123 =>
  some h123
def fX4_readToken_j37 (N : Nat) (h : Hp) (l0 : Option Nat) : Option (Hp) :=
  (gI h l0 4 3).bind fun v39 =>
  (pV h l0 4 2 (.int v39)).bind fun h42 =>
  (gI h42 l0 4 2).bind fun v47 =>
  if isO h42 l0 4 = true then
  (fX4_byteAt N h42 l0 v47).bind fun v50 =>
    (gI h42 l0 4 2).bind fun v55 =>
    (gI h42 l0 4 1).bind fun v59 =>
    if v55 < v59 then
      (fX4_isLetter N h42 v50).bind fun v74 =>
      if v74 = 0 then
        (fX4_isDigit N h42 v50).bind fun v88 =>
        if v88 = 0 then
          if v50 = (59 : Int32) then
            fX4_readToken_j113 N h42 l0 (3 : Int32) l0
          else
            fX4_readToken_j113 N h42 l0 (4 : Int32) l0
        else
          if isO h42 l0 4 = true then
          (fX4_readNumber N h42 l0).bind fun z95 =>
            some z95
          else none
      else
        if isO h42 l0 4 = true then
        (fX4_readLetters N h42 l0).bind fun z81 =>
          some z81
        else none
    else
      (pV h42 l0 4 4 (.int (0 : Int32))).bind fun h67 =>
      some h67
  else none
def fX4_readToken (N : Nat) (h : Hp) (l0 : Option Nat) : Option (Hp) :=
  fX4_readToken_L0 N
    (fun h l0 =>
      fX4_readToken_j37 N h l0)
    N h l0
def fX0_hasRoomFor (N : Nat) (h : Hp) (l0 : Option Nat) (l1 : Int32) : Option (Int32) :=
  if l1 = 112 then
    (gI h l0 0 5).bind fun v66 =>
    if (4 : Int32) ≤ v66 then
      some (0 : Int32)
    else
      some (1 : Int32)
  else
  if l1 = 114 then
    (gI h l0 0 3).bind fun v37 =>
    if (4 : Int32) ≤ v37 then
      some (0 : Int32)
    else
      some (1 : Int32)
  else
  if l1 = 119 then
    (gI h l0 0 4).bind fun v51 =>
    if (6 : Int32) ≤ v51 then
      some (0 : Int32)
    else
      some (1 : Int32)
  else
    some (0 : Int32)
def fJ9_floorMod_7cf53 (N : Nat) (h : Hp) (l0 : Int32) (l1 : Int32) : Option (Int32) :=
  if l1 = 0 then none else
  if 0 ≤ (l0 ^^^ l1) then
    some (jrem l0 l1)
  else
    if (jrem l0 l1) = 0 then
      some (jrem l0 l1)
    else
      some ((jrem l0 l1) + l1)
def fX5_rest (N : Nat) (h : Hp) (l0 : Int32) (l1 : Int32) : Option (Int32) :=
  if 0 < l1 then
    (fJ9_floorMod_7cf53 N h l0 l1).bind fun v10 =>
    some v10
  else
    some (0 : Int32)
def fX0_addsRing (N : Nat) (h : Hp) (l0 : Option Nat) (l1 : Int32) : Option (Int32 × Hp) :=
  (gI h l0 0 3).bind fun v1 =>
  if (4 : Int32) ≤ v1 then
    some ((0 : Int32), h)
  else
    (fX5_within N h l1 (12 : Int32) (120 : Int32)).bind fun v13 =>
    if v13 = 0 then
      some ((0 : Int32), h)
    else
      (fX5_rest N h (360 : Int32) l1).bind fun v23 =>
      if v23 = 0 then
        (gA h l0 0 0).bind fun v32 =>
        (gI h l0 0 3).bind fun v36 =>
        (wI h v32 0 v36 l1).bind fun h40 =>
        (gI h40 l0 0 3).bind fun v43 =>
        (pV h40 l0 0 3 (.int (v43 + (1 : Int32)))).bind fun h48 =>
        some ((1 : Int32), h48)
      else
        some ((0 : Int32), h)
def fX0_addsWheel (N : Nat) (h : Hp) (l0 : Option Nat) (l1 : Int32) : Option (Int32 × Hp) :=
  (gI h l0 0 4).bind fun v1 =>
  if (6 : Int32) ≤ v1 then
    some ((0 : Int32), h)
  else
    (fX5_within N h l1 (3 : Int32) (99 : Int32)).bind fun v13 =>
    if v13 = 0 then
      some ((0 : Int32), h)
    else
      (gA h l0 0 1).bind fun v22 =>
      (gI h l0 0 4).bind fun v26 =>
      (wI h v22 0 v26 l1).bind fun h30 =>
      (gI h30 l0 0 4).bind fun v33 =>
      (pV h30 l0 0 4 (.int (v33 + (1 : Int32)))).bind fun h38 =>
      some ((1 : Int32), h38)
def fX0_addsPen (N : Nat) (h : Hp) (l0 : Option Nat) (l1 : Int32) : Option (Int32 × Hp) :=
  (gI h l0 0 5).bind fun v1 =>
  if (4 : Int32) ≤ v1 then
    some ((0 : Int32), h)
  else
    (fX5_within N h l1 (0 : Int32) (999 : Int32)).bind fun v13 =>
    if v13 = 0 then
      some ((0 : Int32), h)
    else
      (gA h l0 0 2).bind fun v22 =>
      (gI h l0 0 5).bind fun v26 =>
      (wI h v22 0 v26 l1).bind fun h30 =>
      (gI h30 l0 0 5).bind fun v33 =>
      (pV h30 l0 0 5 (.int (v33 + (1 : Int32)))).bind fun h38 =>
      some ((1 : Int32), h38)
def fX0_adds (N : Nat) (h : Hp) (l0 : Option Nat) (l1 : Int32) (l2 : Int32) : Option (Int32 × Hp) :=
  if l1 = 112 then
    if isO h l0 0 = true then
    (fX0_addsPen N h l0 l2).bind fun z50 =>
      if z50.1 = 0 ∨ z50.1 = 1 then some (z50.1, z50.2) else none
    else none
  else
  if l1 = 114 then
    if isO h l0 0 = true then
    (fX0_addsRing N h l0 l2).bind fun z38 =>
      if z38.1 = 0 ∨ z38.1 = 1 then some (z38.1, z38.2) else none
    else none
  else
  if l1 = 119 then
    if isO h l0 0 = true then
    (fX0_addsWheel N h l0 l2).bind fun z44 =>
      if z44.1 = 0 ∨ z44.1 = 1 then some (z44.1, z44.2) else none
    else none
  else
    some ((0 : Int32), h)
def fX4_faultIn_L11 {α : Type} (N : Nat) (K45 : Hp → Option Nat → Option α) (K74 : Hp → Option Nat → Option α) (K91 : Hp → Option Nat → Option α) (K106 : Hp → Option α) : Nat → Hp → Option Nat → Option Nat → Int32 → Option α
  | 0, _, _, _, _ => none
  | n + 1, h, l0, l1, l2 =>
    if (100 : Int32) < l2 then
      K106 h
    else
      (gI h l0 4 4).bind fun v18 =>
      if v18 = 0 then
        K106 h
      else
        (gI h l0 4 5).bind fun v25 =>
        (gI h l0 4 4).bind fun v30 =>
        if v30 = (1 : Int32) then
          if isO h l1 0 = true then
          (fX0_hasRoomFor N h l1 v25).bind fun v39 =>
            if v39 = 0 then
              K45 h l0
            else
              if isO h l0 4 = true then
              (fX4_readToken N h l0).bind fun z51 =>
                (gI z51 l0 4 4).bind fun v55 =>
                if v55 = (2 : Int32) then
                  (gI z51 l0 4 5).bind fun v65 =>
                  if isO z51 l1 0 = true then
                  (fX0_adds N z51 l1 v25 v65).bind fun z68 =>
                    if z68.1 = 0 then
                      K74 z68.2 l0
                    else
                      if isO z68.2 l0 4 = true then
                      (fX4_readToken N z68.2 l0).bind fun z80 =>
                        (gI z80 l0 4 4).bind fun v84 =>
                        if v84 = (3 : Int32) then
                          if isO z80 l0 4 = true then
                          (fX4_readToken N z80 l0).bind fun z97 =>
                            fX4_faultIn_L11 N K45 K74 K91 K106 n z97 l0 l1 (l2 + 1)
                          else none
                        else
                          K91 z80 l0
                      else none
                  else none
                else
                  K74 z51 l0
              else none
          else none
        else
          K45 h l0
def fX4_faultIn (N : Nat) (h : Hp) (l0 : Option Nat) (l1 : Option Nat) : Option (Int32 × Hp) :=
  (pV h l0 4 3 (.int (0 : Int32))).bind fun h2 =>
  if isO h2 l0 4 = true then
  (fX4_readToken N h2 l0).bind fun z6 =>
    fX4_faultIn_L11 N
      (fun h l0 =>
        (gI h l0 4 2).bind fun v46 =>
        some (v46, h))
      (fun h l0 =>
        (gI h l0 4 2).bind fun v75 =>
        some (v75, h))
      (fun h l0 =>
        (gI h l0 4 2).bind fun v92 =>
        some (v92, h))
      (fun h =>
        some ((-1 : Int32), h))
      N z6 l0 l1 (0 : Int32)
  else none
def fJ7_copyOf_59c91 (N : Nat) (h : Hp) (sz : Nat) (l0 : Option Nat) (l1 : Int32) : Option (Option Nat × Hp × Nat) :=
  (aL h l0).bind fun v2 =>
  if l1 = v2 then
    (clI h sz l0).bind fun h7 =>
    if isI h7 (some sz) = true then
      some (some sz, h7, sz + 1)
    else none
  else
    if ¬ l1 < 0 ∧ l1.toNatClampNeg ≤ 16 then
      (aL (up h sz (oI 0 l1.toNatClampNeg (fun _ => 0))) l0).bind fun v23 =>
      (cpI (up h sz (oI 0 l1.toNatClampNeg (fun _ => 0))) l0 (0 : Int32) (some sz) (0 : Int32) (jmin v23 l1)).bind fun h28 =>
      some (some sz, h28, sz + 1)
    else none
def fX0_inkTold (N : Nat) (h : Hp) (sz : Nat) (l0 : Option Nat) : Option (Option Nat × Hp × Nat) :=
  (gA h l0 0 2).bind fun v1 =>
  (gI h l0 0 5).bind fun v5 =>
  (fJ7_copyOf_59c91 N h sz v1 v5).bind fun z8 =>
  some (z8.1, z8.2.1, z8.2.2)
def fX8_empties_L2 {α : Type} (N : Nat) (K21 : Hp → Option Nat → Option α) : Nat → Hp → Option Nat → Int32 → Option α
  | 0, _, _, _ => none
  | n + 1, h, l0, l1 =>
    if (10 : Int32) ≤ l1 then
      K21 h l0
    else
      (gA h l0 8 0).bind fun v9 =>
      (wA h v9 3 l1 none).bind fun h14 =>
      fX8_empties_L2 N K21 n h14 l0 (l1 + 1)
def fX8_empties (N : Nat) (h : Hp) (l0 : Option Nat) : Option (Hp) :=
  fX8_empties_L2 N
    (fun h l0 =>
      (pV h l0 8 1 (.int (0 : Int32))).bind fun h23 =>
      some h23)
    N h l0 (0 : Int32)
def fX3_empties (N : Nat) (h : Hp) (l0 : Option Nat) : Option (Int32 × Hp) :=
  (gI h l0 3 2).bind fun v1 =>
  (pV h l0 3 2 (.int (0 : Int32))).bind fun h7 =>
  some (v1, h7)
def fX5_startAnew_L47 {α : Type} (N : Nat) (K65 : Hp → Nat → Option α) : Nat → Hp → Nat → Option Nat → Int32 → Option α
  | 0, _, _, _, _ => none
  | n + 1, h, sz, l0, l2 =>
    if (2 : Int32) ≤ l2 then
      K65 h sz
    else
      (gA h l0 5 5).bind fun v53 =>
      (wA h v53 8 l2 none).bind fun h58 =>
      fX5_startAnew_L47 N K65 n h58 sz l0 (l2 + 1)
def fX5_startAnew (N : Nat) (h : Hp) (sz : Nat) (l0 : Option Nat) (l1 : Option Nat) : Option (Hp × Nat) :=
  (pV h l0 5 2 (va_rf l1)).bind fun h2 =>
  if isO (up h2 sz (oO 2 [.int 0, .null, .null])) l1 0 = true then
  (fX0_inkTold N (up h2 sz (oO 2 [.int 0, .null, .null])) (sz + 1) l1).bind fun z12 =>
    (fX2_init N (up z12.2.1 z12.2.2 (oA 2 0 (fun _ => none))) (some sz) (0 : Int32) z12.1 (some z12.2.2)).bind fun z19 =>
    (pV z19 l0 5 3 (va_rf (some sz))).bind fun h22 =>
    (gA h22 l0 5 4).bind fun v26 =>
    if isO h22 v26 8 = true then
    (fX8_empties N h22 v26).bind fun z29 =>
      (pV z29 l0 5 10 (.int (0 : Int32))).bind fun h34 =>
      (gA h34 l0 5 1).bind fun v38 =>
      if isO h34 v38 3 = true then
      (fX3_empties N h34 v38).bind fun z41 =>
        fX5_startAnew_L47 N
          (fun h sz =>
            some (h, sz))
          N z41.2 (z12.2.2 + 1) l0 (0 : Int32)
      else none
    else none
  else none
def fX0_items (N : Nat) (h : Hp) (l0 : Option Nat) : Option (Int32) :=
  (gI h l0 0 3).bind fun v1 =>
  (gI h l0 0 4).bind fun v5 =>
  (gI h l0 0 5).bind fun v10 =>
  some ((v1 + v5) + v10)
def fX5_box (N : Nat) (h : Hp) (sz : Nat) (l0 : Option Nat) : Option (Int32 × Hp × Nat) :=
  (fX0_init N (up h sz (oO 0 [.null, .null, .null, .int 0, .int 0, .int 0])) (sz + 1) (some sz)).bind fun z4 =>
  (gA z4.1 l0 5 0).bind fun v9 =>
  if isO z4.1 v9 4 = true then
  (fX4_faultIn N z4.1 v9 (some sz)).bind fun z13 =>
    if z13.1 = (-1 : Int32) then
      (gA z13.2 l0 5 0).bind fun v28 =>
      if isO z13.2 v28 4 = true then
      (fX4_empties N z13.2 v28).bind fun z31 =>
        if isO z31.2 l0 5 = true then
        (fX5_startAnew N z31.2 z4.2 l0 (some sz)).bind fun z37 =>
          if isO z37.1 (some sz) 0 = true then
          (fX0_items N z37.1 (some sz)).bind fun v41 =>
            some (v41, z37.1, z37.2)
          else none
        else none
      else none
    else
      some ((-10 : Int32) - z13.1, z13.2, z4.2)
  else none
def fX6_here (N : Nat) (h : Hp) (l0 : Option Nat) : Option (Int32) :=
  (gI h l0 6 15).bind fun v1 =>
  (gI h l0 6 14).bind fun v5 =>
  if v5 ≤ v1 then
    some (-9 : Int32)
  else
    (gA h l0 6 13).bind fun v12 =>
    (gI h l0 6 15).bind fun v16 =>
    (rI h v12 0 v16).bind fun v19 =>
    some v19
def fX6_skip_L0 {α : Type} (N : Nat) (K22 : Hp → Option α) : Nat → Hp → Option Nat → Option α
  | 0, _, _ => none
  | n + 1, h, l0 =>
    if isO h l0 6 = true then
    (fX6_here N h l0).bind fun v1 =>
      if v1 = (32 : Int32) then
        (gI h l0 6 15).bind fun v11 =>
        (pV h l0 6 15 (.int (v11 + (1 : Int32)))).bind fun h16 =>
        fX6_skip_L0 N K22 n h16 l0
      else
        K22 h
    else none
def fX6_skip (N : Nat) (h : Hp) (l0 : Option Nat) : Option (Hp) :=
  fX6_skip_L0 N
    (fun h =>
      some h)
    N h l0
def fX6_number_L9 {α : Type} (N : Nat) (K81 : Hp → Option Nat → Int32 → Int32 → Int32 → Int32 → Option α) : Nat → Hp → Option Nat → Int32 → Int32 → Int32 → Int32 → Option α
  | 0, _, _, _, _, _, _ => none
  | n + 1, h, l0, l1, l2, l3, l4 =>
    (gI h l0 6 15).bind fun v10 =>
    (gI h l0 6 14).bind fun v16 =>
    if v16 ≤ (v10 + l3) then
      K81 h l0 l1 l2 l3 l4
    else
      (gA h l0 6 13).bind fun v23 =>
      (gI h l0 6 15).bind fun v27 =>
      (rI h v23 0 (v27 + l3)).bind fun v32 =>
      (fX6_in N h v32 (48 : Int32) (57 : Int32)).bind fun v37 =>
      if v37 = 0 then
        K81 h l0 l1 l2 l3 l4
      else
        if (3 : Int32) ≤ l3 then
          fX6_number_L9 N K81 n h l0 l1 l2 (l3 + 1) l4
        else
          (gA h l0 6 13).bind fun v54 =>
          (gI h l0 6 15).bind fun v58 =>
          (rI h v54 0 (v58 + l3)).bind fun v63 =>
          fX6_number_L9 N K81 n h l0 l1 l2 (l3 + 1) ((((10 : Int32) * l4) + v63) - (48 : Int32))
def fX6_number_j104 (N : Nat) (h : Hp) (l0 : Option Nat) (l1 : Int32) (l2 : Int32) (l3 : Int32) (l4 : Int32) : Option (Int32 × Hp) :=
  (fX6_in N h l4 l1 l2).bind fun v108 =>
  if v108 = 0 then
    some ((0 : Int32), h)
  else
    (pV h l0 6 19 (.int l4)).bind fun h119 =>
    (gI h119 l0 6 15).bind fun v124 =>
    (pV h119 l0 6 15 (.int (v124 + l3))).bind fun h129 =>
    some ((1 : Int32), h129)
def fX6_number_j81 (N : Nat) (h : Hp) (l0 : Option Nat) (l1 : Int32) (l2 : Int32) (l3 : Int32) (l4 : Int32) : Option (Int32 × Hp) :=
  (fX6_in N h l3 (1 : Int32) (3 : Int32)).bind fun v84 =>
  if v84 = 0 then
    some ((0 : Int32), h)
  else
    if l3 ≤ (1 : Int32) then
      fX6_number_j104 N h l0 l1 l2 l3 l4
    else
      if isO h l0 6 = true then
      (fX6_here N h l0).bind fun v96 =>
        if v96 = (48 : Int32) then
          some ((0 : Int32), h)
        else
          fX6_number_j104 N h l0 l1 l2 l3 l4
      else none
def fX6_number (N : Nat) (h : Hp) (l0 : Option Nat) (l1 : Int32) (l2 : Int32) : Option (Int32 × Hp) :=
  if isO h l0 6 = true then
  (fX6_skip N h l0).bind fun z1 =>
    fX6_number_L9 N
      (fun h l0 l1 l2 l3 l4 =>
        fX6_number_j81 N h l0 l1 l2 l3 l4)
      N z1 l0 l1 l2 (0 : Int32) (0 : Int32)
  else none
def fX6_ends (N : Nat) (h : Hp) (l0 : Option Nat) : Option (Int32 × Hp) :=
  if isO h l0 6 = true then
  (fX6_skip N h l0).bind fun z1 =>
    if isO z1 l0 6 = true then
    (fX6_here N z1 l0).bind fun v5 =>
      if v5 = (59 : Int32) then
        (gI z1 l0 6 15).bind fun v17 =>
        (pV z1 l0 6 15 (.int (v17 + (1 : Int32)))).bind fun h22 =>
        some ((1 : Int32), h22)
      else
        some ((0 : Int32), z1)
    else none
  else none
def fX6_readsRing (N : Nat) (h : Hp) (l0 : Option Nat) : Option (Int32 × Hp) :=
  (gI h l0 6 15).bind fun v1 =>
  if isO h l0 6 = true then
  (fX6_number N h l0 (12 : Int32) (120 : Int32)).bind fun z10 =>
    if z10.1 = 0 then
      some ((0 : Int32), z10.2)
    else
      (gI z10.2 l0 6 19).bind fun v22 =>
      if v22 = 0 then none else
      if (jrem (360 : Int32) v22) = 0 then
        (gA z10.2 l0 6 20).bind fun v41 =>
        (gI z10.2 l0 6 16).bind fun v45 =>
        (gI z10.2 l0 6 19).bind fun v49 =>
        (wI z10.2 v41 0 v45 v49).bind fun h52 =>
        (gI h52 l0 6 16).bind fun v55 =>
        (pV h52 l0 6 16 (.int (v55 + (1 : Int32)))).bind fun h60 =>
        if isO h60 l0 6 = true then
        (fX6_ends N h60 l0).bind fun z64 =>
          if z64.1 = 0 ∨ z64.1 = 1 then some (z64.1, z64.2) else none
        else none
      else
        (pV z10.2 l0 6 15 (.int v1)).bind fun h31 =>
        if isO h31 l0 6 = true then
        (fX6_skip N h31 l0).bind fun z35 =>
          some ((0 : Int32), z35)
        else none
  else none
def fX6_readsWheel (N : Nat) (h : Hp) (l0 : Option Nat) : Option (Int32 × Hp) :=
  if isO h l0 6 = true then
  (fX6_number N h l0 (3 : Int32) (99 : Int32)).bind fun z4 =>
    if z4.1 = 0 then
      some ((0 : Int32), z4.2)
    else
      (gA z4.2 l0 6 21).bind fun v13 =>
      (gI z4.2 l0 6 17).bind fun v17 =>
      (gI z4.2 l0 6 19).bind fun v21 =>
      (wI z4.2 v13 0 v17 v21).bind fun h24 =>
      (gI h24 l0 6 17).bind fun v27 =>
      (pV h24 l0 6 17 (.int (v27 + (1 : Int32)))).bind fun h32 =>
      if isO h32 l0 6 = true then
      (fX6_ends N h32 l0).bind fun z36 =>
        if z36.1 = 0 ∨ z36.1 = 1 then some (z36.1, z36.2) else none
      else none
  else none
def fX6_readsPen (N : Nat) (h : Hp) (l0 : Option Nat) : Option (Int32 × Hp) :=
  if isO h l0 6 = true then
  (fX6_number N h l0 (0 : Int32) (999 : Int32)).bind fun z5 =>
    if z5.1 = 0 then
      some ((0 : Int32), z5.2)
    else
      (gA z5.2 l0 6 22).bind fun v14 =>
      (gI z5.2 l0 6 18).bind fun v18 =>
      (gI z5.2 l0 6 19).bind fun v22 =>
      (wI z5.2 v14 0 v18 v22).bind fun h25 =>
      (gI h25 l0 6 18).bind fun v28 =>
      (pV h25 l0 6 18 (.int (v28 + (1 : Int32)))).bind fun h33 =>
      if isO h33 l0 6 = true then
      (fX6_ends N h33 l0).bind fun z37 =>
        if z37.1 = 0 ∨ z37.1 = 1 then some (z37.1, z37.2) else none
      else none
  else none
def fX6_readsItem_j109 (N : Nat) (h : Hp) (l0 : Option Nat) (l1 : Int32) (l2 : Int32) (s0 : Int32) : Option (Int32 × Hp) :=
  if l2 = 0 then
    some ((0 : Int32), h)
  else
    if s0 = 0 then
      some ((0 : Int32), h)
    else
      (gI h l0 6 15).bind fun v122 =>
      (pV h l0 6 15 (.int (v122 + (1 : Int32)))).bind fun h127 =>
      if l1 = (114 : Int32) then
        if isO h127 l0 6 = true then
        (fX6_readsRing N h127 l0).bind fun z137 =>
          if z137.1 = 0 ∨ z137.1 = 1 then some (z137.1, z137.2) else none
        else none
      else
        if l1 = (119 : Int32) then
          if isO h127 l0 6 = true then
          (fX6_readsWheel N h127 l0).bind fun z150 =>
            if z150.1 = 0 ∨ z150.1 = 1 then some (z150.1, z150.2) else none
          else none
        else
          if isO h127 l0 6 = true then
          (fX6_readsPen N h127 l0).bind fun z157 =>
            if z157.1 = 0 ∨ z157.1 = 1 then some (z157.1, z157.2) else none
          else none
def fX6_readsItem_j44 (N : Nat) (h : Hp) (l0 : Option Nat) (l1 : Int32) (s0 : Int32) : Option (Int32 × Hp) :=
  if l1 = (114 : Int32) then
    (gI h l0 6 16).bind fun v52 =>
    if (4 : Int32) ≤ v52 then
      fX6_readsItem_j109 N h l0 l1 s0 (0 : Int32)
    else
      fX6_readsItem_j109 N h l0 l1 s0 (1 : Int32)
  else
    if l1 = (119 : Int32) then
      (gI h l0 6 17).bind fun v74 =>
      if (6 : Int32) ≤ v74 then
        fX6_readsItem_j109 N h l0 l1 s0 (0 : Int32)
      else
        fX6_readsItem_j109 N h l0 l1 s0 (1 : Int32)
    else
      if l1 = (112 : Int32) then
        (gI h l0 6 18).bind fun v97 =>
        if (4 : Int32) ≤ v97 then
          fX6_readsItem_j109 N h l0 l1 s0 (0 : Int32)
        else
          fX6_readsItem_j109 N h l0 l1 s0 (1 : Int32)
      else
        fX6_readsItem_j109 N h l0 l1 s0 (0 : Int32)
def fX6_readsItem (N : Nat) (h : Hp) (l0 : Option Nat) : Option (Int32 × Hp) :=
  if isO h l0 6 = true then
  (fX6_here N h l0).bind fun v1 =>
    (gI h l0 6 15).bind fun v6 =>
    (gI h l0 6 14).bind fun v12 =>
    if v12 ≤ (v6 + (1 : Int32)) then
      fX6_readsItem_j44 N h l0 v1 (1 : Int32)
    else
      (gA h l0 6 13).bind fun v19 =>
      (gI h l0 6 15).bind fun v23 =>
      (rI h v19 0 (v23 + (1 : Int32))).bind fun v28 =>
      (fX6_in N h v28 (97 : Int32) (122 : Int32)).bind fun v33 =>
      if v33 = 0 then
        fX6_readsItem_j44 N h l0 v1 (1 : Int32)
      else
        fX6_readsItem_j44 N h l0 v1 (0 : Int32)
  else none
def fX6_box_L26 {α : Type} (N : Nat) (K44 : Hp → Option Nat → Option α) (K62 : Hp → Option Nat → Int32 → Option α) : Nat → Hp → Option Nat → Int32 → Option α
  | 0, _, _, _ => none
  | n + 1, h, l0, l1 =>
    (gI h l0 6 15).bind fun v27 =>
    (gI h l0 6 14).bind fun v31 =>
    if v31 ≤ v27 then
      K62 h l0 l1
    else
      if isO h l0 6 = true then
      (fX6_readsItem N h l0).bind fun z38 =>
        if z38.1 = 0 then
          K44 z38.2 l0
        else
          if isO z38.2 l0 6 = true then
          (fX6_skip N z38.2 l0).bind fun z56 =>
            fX6_box_L26 N K44 K62 n z56 l0 (l1 + 1)
          else none
      else none
def fX6_box_L93 {α : Type} (N : Nat) (K119 : Hp → Option Nat → Int32 → Option α) : Nat → Hp → Option Nat → Int32 → Int32 → Option α
  | 0, _, _, _, _ => none
  | n + 1, h, l0, l1, l2 =>
    (gI h l0 6 0).bind fun v95 =>
    if v95 ≤ l2 then
      K119 h l0 l1
    else
      (gA h l0 6 3).bind fun v102 =>
      (gA h l0 6 20).bind fun v107 =>
      (rI h v107 0 l2).bind fun v111 =>
      (wI h v102 0 l2 v111).bind fun h112 =>
      fX6_box_L93 N K119 n h112 l0 l1 (l2 + 1)
def fX6_box_L121 {α : Type} (N : Nat) (K147 : Hp → Option Nat → Int32 → Option α) : Nat → Hp → Option Nat → Int32 → Int32 → Option α
  | 0, _, _, _, _ => none
  | n + 1, h, l0, l1, l2 =>
    (gI h l0 6 1).bind fun v123 =>
    if v123 ≤ l2 then
      K147 h l0 l1
    else
      (gA h l0 6 4).bind fun v130 =>
      (gA h l0 6 21).bind fun v135 =>
      (rI h v135 0 l2).bind fun v139 =>
      (wI h v130 0 l2 v139).bind fun h140 =>
      fX6_box_L121 N K147 n h140 l0 l1 (l2 + 1)
def fX6_box_L149 {α : Type} (N : Nat) (K175 : Hp → Option Nat → Int32 → Option α) : Nat → Hp → Option Nat → Int32 → Int32 → Option α
  | 0, _, _, _, _ => none
  | n + 1, h, l0, l1, l2 =>
    (gI h l0 6 2).bind fun v151 =>
    if v151 ≤ l2 then
      K175 h l0 l1
    else
      (gA h l0 6 7).bind fun v158 =>
      (gA h l0 6 22).bind fun v163 =>
      (rI h v163 0 l2).bind fun v167 =>
      (wI h v158 0 l2 v167).bind fun h168 =>
      fX6_box_L149 N K175 n h168 l0 l1 (l2 + 1)
def fX6_box (N : Nat) (h : Hp) (l0 : Option Nat) : Option (Int32 × Hp) :=
  (pV h l0 6 15 (.int (0 : Int32))).bind fun h2 =>
  (pV h2 l0 6 16 (.int (0 : Int32))).bind fun h7 =>
  (pV h7 l0 6 17 (.int (0 : Int32))).bind fun h12 =>
  (pV h12 l0 6 18 (.int (0 : Int32))).bind fun h17 =>
  if isO h17 l0 6 = true then
  (fX6_skip N h17 l0).bind fun z23 =>
    fX6_box_L26 N
      (fun h l0 =>
        (gI h l0 6 15).bind fun v47 =>
        some ((-10 : Int32) - v47, h))
      (fun h l0 l1 =>
        (pV h l0 6 14 (.int (0 : Int32))).bind fun h64 =>
        (gI h64 l0 6 16).bind fun v69 =>
        (pV h64 l0 6 0 (.int v69)).bind fun h72 =>
        (gI h72 l0 6 17).bind fun v77 =>
        (pV h72 l0 6 1 (.int v77)).bind fun h80 =>
        (gI h80 l0 6 18).bind fun v85 =>
        (pV h80 l0 6 2 (.int v85)).bind fun h88 =>
        fX6_box_L93 N
          (fun h l0 l1 =>
            fX6_box_L121 N
              (fun h l0 l1 =>
                fX6_box_L149 N
                  (fun h l0 l1 =>
                    (pV h l0 6 5 (.int (0 : Int32))).bind fun h177 =>
                    (pV h177 l0 6 6 (.int (0 : Int32))).bind fun h182 =>
                    (pV h182 l0 6 9 (.int (0 : Int32))).bind fun h187 =>
                    (pV h187 l0 6 24 (.int (0 : Int32))).bind fun h192 =>
                    (gA h192 l0 6 29).bind fun v196 =>
                    (wI h192 v196 0 (0 : Int32) (0 : Int32)).bind fun h201 =>
                    (gA h201 l0 6 29).bind fun v203 =>
                    (wI h201 v203 0 (860 : Int32) (0 : Int32)).bind fun h210 =>
                    some (l1, h210))
                  N h l0 l1 (0 : Int32))
              N h l0 l1 (0 : Int32))
          N h88 l0 l1 (0 : Int32))
      N z23 l0 (0 : Int32)
  else none
def fX0_hasRing (N : Nat) (h : Hp) (l0 : Option Nat) (l1 : Int32) : Option (Int32) :=
  if l1 < 0 then
    some (0 : Int32)
  else
    (gI h l0 0 3).bind fun v6 =>
    if v6 ≤ l1 then
      some (0 : Int32)
    else
      some (1 : Int32)
def fX0_teethOf (N : Nat) (h : Hp) (l0 : Option Nat) (l1 : Int32) : Option (Int32) :=
  if isO h l0 0 = true then
  (fX0_hasRing N h l0 l1).bind fun v2 =>
    if v2 = 0 then
      some (0 : Int32)
    else
      (gA h l0 0 0).bind fun v9 =>
      (rI h v9 0 l1).bind fun v13 =>
      some v13
  else none
def fX5_ring (N : Nat) (h : Hp) (l0 : Option Nat) (l1 : Int32) : Option (Int32) :=
  (gA h l0 5 2).bind fun v1 =>
  if isO h v1 0 = true then
  (fX0_hasRing N h v1 l1).bind fun v5 =>
    if v5 = 0 then
      some (-1 : Int32)
    else
      (gA h l0 5 2).bind fun v12 =>
      if isO h v12 0 = true then
      (fX0_teethOf N h v12 l1).bind fun v16 =>
        some v16
      else none
  else none
def fX6_isRing (N : Nat) (h : Hp) (l0 : Option Nat) (l1 : Int32) : Option (Int32) :=
  (gI h l0 6 0).bind fun v3 =>
  (fX6_in N h l1 (0 : Int32) (v3 - (1 : Int32))).bind fun v8 =>
  if v8 = 0 ∨ v8 = 1 then some v8 else none
def fX6_ring (N : Nat) (h : Hp) (l0 : Option Nat) (l1 : Int32) : Option (Int32) :=
  if isO h l0 6 = true then
  (fX6_isRing N h l0 l1).bind fun v2 =>
    if v2 = 0 then
      some (-1 : Int32)
    else
      (gA h l0 6 3).bind fun v9 =>
      (rI h v9 0 l1).bind fun v13 =>
      some v13
  else none
def fX0_hasWheel (N : Nat) (h : Hp) (l0 : Option Nat) (l1 : Int32) : Option (Int32) :=
  if l1 < 0 then
    some (0 : Int32)
  else
    (gI h l0 0 4).bind fun v6 =>
    if v6 ≤ l1 then
      some (0 : Int32)
    else
      some (1 : Int32)
def fX0_cogsOf (N : Nat) (h : Hp) (l0 : Option Nat) (l1 : Int32) : Option (Int32) :=
  if isO h l0 0 = true then
  (fX0_hasWheel N h l0 l1).bind fun v2 =>
    if v2 = 0 then
      some (0 : Int32)
    else
      (gA h l0 0 1).bind fun v9 =>
      (rI h v9 0 l1).bind fun v13 =>
      some v13
  else none
def fX0_fits (N : Nat) (h : Hp) (l0 : Option Nat) (l1 : Int32) (l2 : Int32) : Option (Int32) :=
  if isO h l0 0 = true then
  (fX0_hasRing N h l0 l1).bind fun v2 =>
    if v2 = 0 then
      some (0 : Int32)
    else
      if isO h l0 0 = true then
      (fX0_hasWheel N h l0 l2).bind fun v10 =>
        if v10 = 0 then
          some (0 : Int32)
        else
          if isO h l0 0 = true then
          (fX0_cogsOf N h l0 l2).bind fun v18 =>
            if isO h l0 0 = true then
            (fX0_teethOf N h l0 l1).bind fun v23 =>
              if v23 ≤ v18 then
                some (0 : Int32)
              else
                some (1 : Int32)
            else none
          else none
      else none
  else none
def fX5_greatestDivisor_L7 {α : Type} (N : Nat) (h : Hp) (K34 : Int32 → Option α) : Nat → Int32 → Int32 → Int32 → Option α
  | 0, _, _, _ => none
  | n + 1, l2, l3, l4 =>
    if (64 : Int32) ≤ l4 then
      K34 l2
    else
      if l3 = 0 then
        K34 l2
      else
        if l3 = 0 then none else
        fX5_greatestDivisor_L7 N h K34 n l3 (jrem l2 l3) (l4 + 1)
def fX5_greatestDivisor (N : Nat) (h : Hp) (l0 : Int32) (l1 : Int32) : Option (Int32) :=
  fX5_greatestDivisor_L7 N h
    (fun l2 =>
      some l2)
    N l0 l1 (0 : Int32)
def fX0_divisorOf (N : Nat) (h : Hp) (l0 : Option Nat) (l1 : Int32) (l2 : Int32) : Option (Int32) :=
  if isO h l0 0 = true then
  (fX0_teethOf N h l0 l1).bind fun v2 =>
    if isO h l0 0 = true then
    (fX0_cogsOf N h l0 l2).bind fun v7 =>
      (fX5_greatestDivisor N h v2 v7).bind fun v10 =>
      some v10
    else none
  else none
def fX5_part (N : Nat) (h : Hp) (l0 : Int32) (l1 : Int32) : Option (Int32) :=
  if l1 = 0 then
    some (0 : Int32)
  else
    if l1 = 0 then none else
    some (l0 / l1)
def fX0_petalsOf (N : Nat) (h : Hp) (l0 : Option Nat) (l1 : Int32) (l2 : Int32) : Option (Int32) :=
  if isO h l0 0 = true then
  (fX0_teethOf N h l0 l1).bind fun v2 =>
    if isO h l0 0 = true then
    (fX0_divisorOf N h l0 l1 l2).bind fun v8 =>
      (fX5_part N h v2 v8).bind fun v11 =>
      some v11
    else none
  else none
def fX0_roundsOf (N : Nat) (h : Hp) (l0 : Option Nat) (l1 : Int32) (l2 : Int32) : Option (Int32) :=
  if isO h l0 0 = true then
  (fX0_cogsOf N h l0 l2).bind fun v2 =>
    if isO h l0 0 = true then
    (fX0_divisorOf N h l0 l1 l2).bind fun v8 =>
      (fX5_part N h v2 v8).bind fun v11 =>
      some v11
    else none
  else none
def fX0_longOf (N : Nat) (h : Hp) (l0 : Option Nat) (l1 : Int32) (l2 : Int32) : Option (Int32) :=
  if isO h l0 0 = true then
  (fX0_teethOf N h l0 l1).bind fun v2 =>
    if isO h l0 0 = true then
    (fX0_roundsOf N h l0 l1 l2).bind fun v8 =>
      some (v2 * v8)
    else none
  else none
def fX5_wheel (N : Nat) (h : Hp) (l0 : Option Nat) (l1 : Int32) (l2 : Int32) (l3 : Int32) : Option (Int32) :=
  (gA h l0 5 2).bind fun v1 =>
  if isO h v1 0 = true then
  (fX0_hasRing N h v1 l1).bind fun v5 =>
    if v5 = 0 then
      some (-1 : Int32)
    else
      (gA h l0 5 2).bind fun v12 =>
      if isO h v12 0 = true then
      (fX0_hasWheel N h v12 l2).bind fun v16 =>
        if v16 = 0 then
          some (-1 : Int32)
        else
          (fX5_within N h l3 (0 : Int32) (3 : Int32)).bind fun v25 =>
          if v25 = 0 then
            some (-1 : Int32)
          else
            if l3 = 0 then
              (gA h l0 5 2).bind fun v38 =>
              if isO h v38 0 = true then
              (fX0_cogsOf N h v38 l2).bind fun v42 =>
                some v42
              else none
            else
              (gA h l0 5 2).bind fun v47 =>
              if isO h v47 0 = true then
              (fX0_fits N h v47 l1 l2).bind fun v52 =>
                if v52 = 0 then
                  some (-9 : Int32)
                else
                  if l3 = 1 then
                    (gA h l0 5 2).bind fun v89 =>
                    if isO h v89 0 = true then
                    (fX0_petalsOf N h v89 l1 l2).bind fun v94 =>
                      some v94
                    else none
                  else
                  if l3 = 2 then
                    (gA h l0 5 2).bind fun v99 =>
                    if isO h v99 0 = true then
                    (fX0_roundsOf N h v99 l1 l2).bind fun v104 =>
                      some v104
                    else none
                  else
                    (gA h l0 5 2).bind fun v109 =>
                    if isO h v109 0 = true then
                    (fX0_longOf N h v109 l1 l2).bind fun v114 =>
                      some v114
                    else none
              else none
      else none
  else none
def fX6_isWheel (N : Nat) (h : Hp) (l0 : Option Nat) (l1 : Int32) : Option (Int32) :=
  (gI h l0 6 1).bind fun v3 =>
  (fX6_in N h l1 (0 : Int32) (v3 - (1 : Int32))).bind fun v8 =>
  if v8 = 0 ∨ v8 = 1 then some v8 else none
def fX6_fits (N : Nat) (h : Hp) (l0 : Option Nat) (l1 : Int32) (l2 : Int32) : Option (Int32) :=
  (gA h l0 6 4).bind fun v1 =>
  (rI h v1 0 l2).bind fun v5 =>
  (gA h l0 6 3).bind fun v7 =>
  (rI h v7 0 l1).bind fun v11 =>
  if v11 ≤ v5 then
    some (0 : Int32)
  else
    some (1 : Int32)
def fX6_common_L4 {α : Type} (N : Nat) (h : Hp) (K21 : Int32 → Option α) : Nat → Int32 → Int32 → Option α
  | 0, _, _ => none
  | n + 1, l2, l3 =>
    if l3 = 0 then
      K21 l2
    else
      if l3 = 0 then none else
      fX6_common_L4 N h K21 n l3 (jrem l2 l3)
def fX6_common (N : Nat) (h : Hp) (l0 : Int32) (l1 : Int32) : Option (Int32) :=
  fX6_common_L4 N h
    (fun l2 =>
      some l2)
    N l0 l1
def fX6_commonOf (N : Nat) (h : Hp) (l0 : Option Nat) (l1 : Int32) (l2 : Int32) : Option (Int32) :=
  (gA h l0 6 3).bind fun v1 =>
  (rI h v1 0 l1).bind fun v5 =>
  (gA h l0 6 4).bind fun v7 =>
  (rI h v7 0 l2).bind fun v11 =>
  (fX6_common N h v5 v11).bind fun v12 =>
  some v12
def fX6_petalsOf (N : Nat) (h : Hp) (l0 : Option Nat) (l1 : Int32) (l2 : Int32) : Option (Int32) :=
  (gA h l0 6 3).bind fun v1 =>
  (rI h v1 0 l1).bind fun v5 =>
  if isO h l0 6 = true then
  (fX6_commonOf N h l0 l1 l2).bind fun v9 =>
    if v9 = 0 then none else
    some (v5 / v9)
  else none
def fX6_roundsOf (N : Nat) (h : Hp) (l0 : Option Nat) (l1 : Int32) (l2 : Int32) : Option (Int32) :=
  (gA h l0 6 4).bind fun v1 =>
  (rI h v1 0 l2).bind fun v5 =>
  if isO h l0 6 = true then
  (fX6_commonOf N h l0 l1 l2).bind fun v9 =>
    if v9 = 0 then none else
    some (v5 / v9)
  else none
def fX6_longOf (N : Nat) (h : Hp) (l0 : Option Nat) (l1 : Int32) (l2 : Int32) : Option (Int32) :=
  (gA h l0 6 3).bind fun v1 =>
  (rI h v1 0 l1).bind fun v5 =>
  if isO h l0 6 = true then
  (fX6_roundsOf N h l0 l1 l2).bind fun v9 =>
    some (v5 * v9)
  else none
def fX6_wheel (N : Nat) (h : Hp) (l0 : Option Nat) (l1 : Int32) (l2 : Int32) (l3 : Int32) : Option (Int32) :=
  if isO h l0 6 = true then
  (fX6_isRing N h l0 l1).bind fun v2 =>
    if v2 = 0 then
      some (-1 : Int32)
    else
      if isO h l0 6 = true then
      (fX6_isWheel N h l0 l2).bind fun v10 =>
        if v10 = 0 then
          some (-1 : Int32)
        else
          (fX6_in N h l3 (0 : Int32) (3 : Int32)).bind fun v19 =>
          if v19 = 0 then
            some (-1 : Int32)
          else
            if l3 = 0 then
              (gA h l0 6 4).bind fun v32 =>
              (rI h v32 0 l2).bind fun v36 =>
              some v36
            else
              if isO h l0 6 = true then
              (fX6_fits N h l0 l1 l2).bind fun v41 =>
                if v41 = 0 then
                  some (-9 : Int32)
                else
                  if l3 = (1 : Int32) then
                    if isO h l0 6 = true then
                    (fX6_petalsOf N h l0 l1 l2).bind fun v58 =>
                      some v58
                    else none
                  else
                    if l3 = (2 : Int32) then
                      if isO h l0 6 = true then
                      (fX6_roundsOf N h l0 l1 l2).bind fun v72 =>
                        some v72
                      else none
                    else
                      if isO h l0 6 = true then
                      (fX6_longOf N h l0 l1 l2).bind fun v81 =>
                        some v81
                      else none
              else none
      else none
  else none
def fX0_hasPen (N : Nat) (h : Hp) (l0 : Option Nat) (l1 : Int32) : Option (Int32) :=
  if l1 < 0 then
    some (0 : Int32)
  else
    (gI h l0 0 5).bind fun v6 =>
    if v6 ≤ l1 then
      some (0 : Int32)
    else
      some (1 : Int32)
def fX2_inkOf (N : Nat) (h : Hp) (l0 : Option Nat) (l1 : Int32) : Option (Int32) :=
  if l1 < 0 then
    some (0 : Int32)
  else
    (gA h l0 2 1).bind fun v6 =>
    (aL h v6).bind fun v9 =>
    if v9 ≤ l1 then
      some (0 : Int32)
    else
      (gA h l0 2 1).bind fun v14 =>
      (rI h v14 0 l1).bind fun v18 =>
      some v18
def fX2_curveAt (N : Nat) (h : Hp) (l0 : Option Nat) (l1 : Int32) : Option (Option Nat) :=
  if l1 < 0 then
    some none
  else
    (gA h l0 2 2).bind fun v6 =>
    (aL h v6).bind fun v9 =>
    if v9 ≤ l1 then
      some none
    else
      (gA h l0 2 2).bind fun v14 =>
      (rA h v14 2 l1).bind fun v18 =>
      some v18
def fX2_hasCurveIn_L2 {α : Type} (N : Nat) (h : Hp) (K29 : Option α) (K37 : Option α) : Nat → Option Nat → Int32 → Int32 → Option α
  | 0, _, _, _ => none
  | n + 1, l0, l1, l2 =>
    (gA h l0 2 2).bind fun v4 =>
    (aL h v4).bind fun v7 =>
    if v7 ≤ l2 then
      K37
    else
      if isO h l0 2 = true then
      (fX2_curveAt N h l0 l2).bind fun v13 =>
        if v13 = none then
          fX2_hasCurveIn_L2 N h K29 K37 n l0 l1 (l2 + 1)
        else
          (gI h v13 1 2).bind fun v22 =>
          if v22 = l1 then
            K29
          else
            fX2_hasCurveIn_L2 N h K29 K37 n l0 l1 (l2 + 1)
      else none
def fX2_hasCurveIn (N : Nat) (h : Hp) (l0 : Option Nat) (l1 : Int32) : Option (Int32) :=
  fX2_hasCurveIn_L2 N h
    (
      some (1 : Int32))
    (
      some (0 : Int32))
    N l0 l1 (0 : Int32)
def fJ7_fill_53178_L5 {α : Type} (N : Nat) (K20 : Hp → Option α) : Nat → Hp → Option Nat → Int32 → Int32 → Int32 → Option α
  | 0, _, _, _, _, _ => none
  | n + 1, h, l0, l1, l2, l3 =>
    if l3 ≤ l2 then
      K20 h
    else
      (wI h l0 0 l2 l1).bind fun h13 =>
      fJ7_fill_53178_L5 N K20 n h13 l0 l1 (l2 + 1) l3
def fJ7_fill_53178 (N : Nat) (h : Hp) (l0 : Option Nat) (l1 : Int32) : Option (Hp) :=
  (aL h l0).bind fun v3 =>
  fJ7_fill_53178_L5 N
    (fun h =>
      some h)
    N h l0 l1 (0 : Int32) v3
def fX1_pointOf (N : Nat) (h : Hp) (l0 : Option Nat) (l1 : Int32) : Option (Int32) :=
  (gI h l0 1 9).bind fun v1 =>
  (gI h l0 1 8).bind fun v5 =>
  (fX5_rest N h (v1 + (v5 * l1)) (360 : Int32)).bind fun v14 =>
  some v14
def fX5_noteShown_L47 {α : Type} (N : Nat) (K74 : Hp → Option Nat → Int32 → Int32 → Option α) : Nat → Hp → Option Nat → Int32 → Int32 → Option Nat → Int32 → Option α
  | 0, _, _, _, _, _, _ => none
  | n + 1, h, l0, l1, l2, l3, l4 =>
    (gI h l3 1 6).bind fun v50 =>
    if v50 ≤ l4 then
      K74 h l0 l1 l2
    else
      (gA h l0 5 7).bind fun v57 =>
      if isO h l3 1 = true then
      (fX1_pointOf N h l3 l4).bind fun v63 =>
        (wI h v57 0 v63 l2).bind fun h67 =>
        fX5_noteShown_L47 N K74 n h67 l0 l1 l2 l3 (l4 + 1)
      else none
def fX5_noteShown_L11 {α : Type} (N : Nat) (K80 : Hp → Option α) : Nat → Hp → Option Nat → Int32 → Int32 → Option α
  | 0, _, _, _, _ => none
  | n + 1, h, l0, l1, l2 =>
    (gA h l0 5 3).bind fun v13 =>
    (gA h v13 2 2).bind fun v16 =>
    (aL h v16).bind fun v19 =>
    if v19 ≤ l2 then
      K80 h
    else
      (gA h l0 5 3).bind fun v24 =>
      if isO h v24 2 = true then
      (fX2_curveAt N h v24 l2).bind fun v28 =>
        if v28 = none then
          fX5_noteShown_L11 N K80 n h l0 l1 (l2 + 1)
        else
          (gI h v28 1 2).bind fun v37 =>
          if v37 = l1 then
            fX5_noteShown_L47 N
              (fun h l0 l1 l2 =>
                fX5_noteShown_L11 N K80 n h l0 l1 (l2 + 1))
              N h l0 l1 l2 v28 (0 : Int32)
          else
            fX5_noteShown_L11 N K80 n h l0 l1 (l2 + 1)
      else none
def fX5_noteShown (N : Nat) (h : Hp) (l0 : Option Nat) (l1 : Int32) : Option (Hp) :=
  (gA h l0 5 7).bind fun v1 =>
  (fJ7_fill_53178 N h v1 (-9 : Int32)).bind fun z6 =>
  fX5_noteShown_L11 N
    (fun h =>
      some h)
    N z6 l0 l1 (0 : Int32)
def fX5_notePens_L7 {α : Type} (N : Nat) (K53 : Hp → Option α) : Nat → Hp → Option Nat → Int32 → Option α
  | 0, _, _, _ => none
  | n + 1, h, l0, l2 =>
    if (360 : Int32) ≤ l2 then
      K53 h
    else
      (gA h l0 5 3).bind fun v15 =>
      (gA h l0 5 7).bind fun v19 =>
      (rI h v19 0 l2).bind fun v23 =>
      if isO h v15 2 = true then
      (fX2_curveAt N h v15 v23).bind fun v24 =>
        (gA h l0 5 7).bind fun v29 =>
        if v24 = none then
          (wI h v29 0 l2 (-9 : Int32)).bind fun h46 =>
          fX5_notePens_L7 N K53 n h46 l0 (l2 + 1)
        else
          (gI h v24 1 4).bind fun v43 =>
          (wI h v29 0 l2 v43).bind fun h46 =>
          fX5_notePens_L7 N K53 n h46 l0 (l2 + 1)
      else none
def fX5_notePens (N : Nat) (h : Hp) (l0 : Option Nat) (l1 : Int32) : Option (Hp) :=
  if isO h l0 5 = true then
  (fX5_noteShown N h l0 l1).bind fun z2 =>
    fX5_notePens_L7 N
      (fun h =>
        some h)
      N z2 l0 (0 : Int32)
  else none
def fX5_pointsNoted_L4 {α : Type} (N : Nat) (h : Hp) (K30 : Int32 → Option α) : Nat → Option Nat → Int32 → Int32 → Int32 → Option α
  | 0, _, _, _, _ => none
  | n + 1, l0, l1, l2, l3 =>
    if (360 : Int32) ≤ l3 then
      K30 l2
    else
      (gA h l0 5 7).bind fun v12 =>
      (rI h v12 0 l3).bind fun v16 =>
      if v16 = l1 then
        fX5_pointsNoted_L4 N h K30 n l0 l1 (l2 + 1) (l3 + 1)
      else
        fX5_pointsNoted_L4 N h K30 n l0 l1 l2 (l3 + 1)
def fX5_pointsNoted (N : Nat) (h : Hp) (l0 : Option Nat) (l1 : Int32) : Option (Int32) :=
  fX5_pointsNoted_L4 N h
    (fun l2 =>
      some l2)
    N l0 l1 (0 : Int32) (0 : Int32)
def fX5_pointsOfPen_L4 {α : Type} (N : Nat) (K40 : Hp → Int32 → Option α) : Nat → Hp → Option Nat → Int32 → Int32 → Int32 → Option α
  | 0, _, _, _, _, _ => none
  | n + 1, h, l0, l1, l2, l3 =>
    if (9 : Int32) < l3 then
      K40 h l2
    else
      (gA h l0 5 3).bind fun v11 =>
      if isO h v11 2 = true then
      (fX2_hasCurveIn N h v11 l3).bind fun v15 =>
        if v15 = 0 then
          fX5_pointsOfPen_L4 N K40 n h l0 l1 l2 (l3 + 1)
        else
          if isO h l0 5 = true then
          (fX5_notePens N h l0 l3).bind fun z23 =>
            if isO z23 l0 5 = true then
            (fX5_pointsNoted N z23 l0 l1).bind fun v29 =>
              fX5_pointsOfPen_L4 N K40 n z23 l0 l1 (l2 + v29) (l3 + 1)
            else none
          else none
      else none
def fX5_pointsOfPen (N : Nat) (h : Hp) (l0 : Option Nat) (l1 : Int32) : Option (Int32 × Hp) :=
  fX5_pointsOfPen_L4 N
    (fun h l2 =>
      some (l2, h))
    N h l0 l1 (0 : Int32) (1 : Int32)
def fX5_pen (N : Nat) (h : Hp) (l0 : Option Nat) (l1 : Int32) (l2 : Int32) : Option (Int32 × Hp) :=
  (gA h l0 5 2).bind fun v1 =>
  if isO h v1 0 = true then
  (fX0_hasPen N h v1 l1).bind fun v5 =>
    if v5 = 0 then
      some ((-1 : Int32), h)
    else
      (fX5_within N h l2 (0 : Int32) (1 : Int32)).bind fun v14 =>
      if v14 = 0 then
        some ((-1 : Int32), h)
      else
        if l2 = 0 then
          (gA h l0 5 3).bind fun v27 =>
          if isO h v27 2 = true then
          (fX2_inkOf N h v27 l1).bind fun v31 =>
            some (v31, h)
          else none
        else
          if isO h l0 5 = true then
          (fX5_pointsOfPen N h l0 l1).bind fun z39 =>
            some (z39.1, z39.2)
          else none
  else none
def fX6_isPen (N : Nat) (h : Hp) (l0 : Option Nat) (l1 : Int32) : Option (Int32) :=
  (gI h l0 6 2).bind fun v3 =>
  (fX6_in N h l1 (0 : Int32) (v3 - (1 : Int32))).bind fun v8 =>
  if v8 = 0 ∨ v8 = 1 then some v8 else none
def fX6_toothAt (N : Nat) (h : Hp) (l0 : Option Nat) (l1 : Int32) (l2 : Int32) (l3 : Int32) : Option (Int32) :=
  (gA h l0 6 3).bind fun v17 =>
  (rI h v17 0 l1).bind fun v21 =>
  if v21 = 0 then none else
  if ((360 : Int32) / v21) = 0 then none else
  if (jrem (jrem ((l3 - l2) + (360 : Int32)) (360 : Int32)) ((360 : Int32) / v21)) = 0 then
    if ((360 : Int32) / v21) = 0 then none else
    some ((jrem ((l3 - l2) + (360 : Int32)) (360 : Int32)) / ((360 : Int32) / v21))
  else
    some (-9 : Int32)
def fX6_isTip (N : Nat) (h : Hp) (l0 : Int32) (l1 : Int32) (l2 : Int32) : Option (Int32) :=
  if l0 = 0 then none else
  if (jrem (l1 - l2) l0) = 0 then
    some (1 : Int32)
  else
    some (0 : Int32)
def fX6_hasTip (N : Nat) (h : Hp) (l0 : Option Nat) (l1 : Int32) (l2 : Int32) (l3 : Int32) : Option (Int32) :=
  (gA h l0 6 8).bind fun v7 =>
  (rI h v7 0 ((6 : Int32) * l1)).bind fun v12 =>
  (gA h l0 6 8).bind fun v16 =>
  (rI h v16 0 (((6 : Int32) * l1) + (2 : Int32))).bind fun v23 =>
  if v23 = l3 then
    (gA h l0 6 8).bind fun v34 =>
    (rI h v34 0 (((6 : Int32) * l1) + (5 : Int32))).bind fun v41 =>
    if isO h l0 6 = true then
    (fX6_toothAt N h l0 v12 v41 l2).bind fun v43 =>
      if v43 = (-9 : Int32) then
        some (0 : Int32)
      else
        (gA h l0 6 8).bind fun v59 =>
        (rI h v59 0 (((6 : Int32) * l1) + (1 : Int32))).bind fun v66 =>
        if isO h l0 6 = true then
        (fX6_commonOf N h l0 v12 v66).bind fun v67 =>
          (gA h l0 6 8).bind fun v73 =>
          (rI h v73 0 (((6 : Int32) * l1) + (3 : Int32))).bind fun v80 =>
          (fX6_isTip N h v67 v43 v80).bind fun v81 =>
          if v81 = 0 then
            some (0 : Int32)
          else
            some (1 : Int32)
        else none
    else none
  else
    some (0 : Int32)
def fX6_shownAt_L7 {α : Type} (N : Nat) (h : Hp) (K27 : Int32 → Option α) : Nat → Option Nat → Int32 → Int32 → Int32 → Option α
  | 0, _, _, _, _ => none
  | n + 1, l0, l1, l2, l3 =>
    if l3 < 0 then
      K27 l3
    else
      if isO h l0 6 = true then
      (fX6_hasTip N h l0 l3 l1 l2).bind fun v15 =>
        if v15 = 0 then
          fX6_shownAt_L7 N h K27 n l0 l1 l2 (l3 + (-1))
        else
          K27 l3
      else none
def fX6_shownAt_j27 (N : Nat) (h : Hp) (l3 : Int32) : Option (Int32) :=
  if 0 ≤ l3 then
    some l3
  else
    some (-9 : Int32)
def fX6_shownAt (N : Nat) (h : Hp) (l0 : Option Nat) (l1 : Int32) (l2 : Int32) : Option (Int32) :=
  (gI h l0 6 6).bind fun v1 =>
  fX6_shownAt_L7 N h
    (fun l3 =>
      fX6_shownAt_j27 N h l3)
    N l0 l1 l2 (v1 - (1 : Int32))
def fX6_penAt (N : Nat) (h : Hp) (l0 : Option Nat) (l1 : Int32) (l2 : Int32) : Option (Int32) :=
  if isO h l0 6 = true then
  (fX6_shownAt N h l0 l1 l2).bind fun v3 =>
    if v3 = (-9 : Int32) then
      some (-9 : Int32)
    else
      (gA h l0 6 8).bind fun v19 =>
      (rI h v19 0 (((6 : Int32) * v3) + (4 : Int32))).bind fun v28 =>
      some v28
  else none
def fX6_penShown_L14 {α : Type} (N : Nat) (h : Hp) (K46 : Option Nat → Int32 → Int32 → Int32 → Option α) : Nat → Option Nat → Int32 → Int32 → Int32 → Int32 → Option α
  | 0, _, _, _, _, _ => none
  | n + 1, l0, l1, l2, l3, l4 =>
    if (9 : Int32) < l4 then
      K46 l0 l1 l2 l3
    else
      if isO h l0 6 = true then
      (fX6_penAt N h l0 l3 l4).bind fun v26 =>
        if v26 = l1 then
          fX6_penShown_L14 N h K46 n l0 l1 (l2 + (1 : Int32)) l3 (l4 + 1)
        else
          fX6_penShown_L14 N h K46 n l0 l1 (l2 + (0 : Int32)) l3 (l4 + 1)
      else none
def fX6_penShown_L4 {α : Type} (N : Nat) (h : Hp) (K52 : Int32 → Option α) : Nat → Option Nat → Int32 → Int32 → Int32 → Option α
  | 0, _, _, _, _ => none
  | n + 1, l0, l1, l2, l3 =>
    if (360 : Int32) ≤ l3 then
      K52 l2
    else
      fX6_penShown_L14 N h
        (fun l0 l1 l2 l3 =>
          fX6_penShown_L4 N h K52 n l0 l1 l2 (l3 + 1))
        N l0 l1 l2 l3 (1 : Int32)
def fX6_penShown (N : Nat) (h : Hp) (l0 : Option Nat) (l1 : Int32) : Option (Int32) :=
  fX6_penShown_L4 N h
    (fun l2 =>
      some l2)
    N l0 l1 (0 : Int32) (0 : Int32)
def fX6_pen (N : Nat) (h : Hp) (l0 : Option Nat) (l1 : Int32) (l2 : Int32) : Option (Int32) :=
  if isO h l0 6 = true then
  (fX6_isPen N h l0 l1).bind fun v2 =>
    if v2 = 0 then
      some (-1 : Int32)
    else
      (fX6_in N h l2 (0 : Int32) (1 : Int32)).bind fun v11 =>
      if v11 = 0 then
        some (-1 : Int32)
      else
        if l2 = 0 then
          (gA h l0 6 7).bind fun v24 =>
          (rI h v24 0 l1).bind fun v28 =>
          some v28
        else
          if isO h l0 6 = true then
          (fX6_penShown N h l0 l1).bind fun v34 =>
            some v34
          else none
  else none
def fX5_tipsShown (N : Nat) (h : Hp) (l0 : Option Nat) (l1 : Int32) (l2 : Int32) : Option (Int32 × Hp) :=
  if isO h l0 5 = true then
  (fX5_noteShown N h l0 l2).bind fun z2 =>
    if isO z2 l0 5 = true then
    (fX5_pointsNoted N z2 l0 l1).bind fun v7 =>
      some (v7, z2)
    else none
  else none
def fX5_curve (N : Nat) (h : Hp) (l0 : Option Nat) (l1 : Int32) (l2 : Int32) : Option (Int32 × Hp) :=
  (gA h l0 5 3).bind fun v1 =>
  if isO h v1 2 = true then
  (fX2_curveAt N h v1 l1).bind fun v5 =>
    if v5 = none then
      some ((-1 : Int32), h)
    else
      if l2 = 0 then
        (gI h v5 1 0).bind fun v61 =>
        some (v61, h)
      else
      if l2 = 1 then
        (gI h v5 1 1).bind fun v66 =>
        some (v66, h)
      else
      if l2 = 2 then
        (gI h v5 1 2).bind fun v71 =>
        some (v71, h)
      else
      if l2 = 3 then
        (gI h v5 1 3).bind fun v76 =>
        some (v76, h)
      else
      if l2 = 4 then
        (gI h v5 1 4).bind fun v81 =>
        some (v81, h)
      else
      if l2 = 5 then
        (gI h v5 1 5).bind fun v86 =>
        some (v86, h)
      else
      if l2 = 6 then
        (gI h v5 1 2).bind fun v93 =>
        if isO h l0 5 = true then
        (fX5_tipsShown N h l0 l1 v93).bind fun z96 =>
          some (z96.1, z96.2)
        else none
      else
        some ((-1 : Int32), h)
  else none
def fX6_isCurve (N : Nat) (h : Hp) (l0 : Option Nat) (l1 : Int32) : Option (Int32) :=
  (gI h l0 6 6).bind fun v3 =>
  (fX6_in N h l1 (0 : Int32) (v3 - (1 : Int32))).bind fun v8 =>
  if v8 = 0 ∨ v8 = 1 then some v8 else none
def fX6_curveShown_L4 {α : Type} (N : Nat) (h : Hp) (K45 : Int32 → Option α) : Nat → Option Nat → Int32 → Int32 → Int32 → Option α
  | 0, _, _, _, _ => none
  | n + 1, l0, l1, l2, l3 =>
    if (360 : Int32) ≤ l3 then
      K45 l2
    else
      (gA h l0 6 8).bind fun v15 =>
      (rI h v15 0 (((6 : Int32) * l1) + (2 : Int32))).bind fun v24 =>
      if isO h l0 6 = true then
      (fX6_shownAt N h l0 l3 v24).bind fun v25 =>
        if v25 = l1 then
          fX6_curveShown_L4 N h K45 n l0 l1 (l2 + (1 : Int32)) (l3 + 1)
        else
          fX6_curveShown_L4 N h K45 n l0 l1 (l2 + (0 : Int32)) (l3 + 1)
      else none
def fX6_curveShown (N : Nat) (h : Hp) (l0 : Option Nat) (l1 : Int32) : Option (Int32) :=
  fX6_curveShown_L4 N h
    (fun l2 =>
      some l2)
    N l0 l1 (0 : Int32) (0 : Int32)
def fX6_curve (N : Nat) (h : Hp) (l0 : Option Nat) (l1 : Int32) (l2 : Int32) : Option (Int32) :=
  if isO h l0 6 = true then
  (fX6_isCurve N h l0 l1).bind fun v2 =>
    if v2 = 0 then
      some (-1 : Int32)
    else
      (fX6_in N h l2 (0 : Int32) (6 : Int32)).bind fun v12 =>
      if v12 = 0 then
        some (-1 : Int32)
      else
        if (6 : Int32) ≤ l2 then
          if isO h l0 6 = true then
          (fX6_curveShown N h l0 l1).bind fun v42 =>
            some v42
          else none
        else
          (gA h l0 6 8).bind fun v27 =>
          (rI h v27 0 (((6 : Int32) * l1) + l2)).bind fun v36 =>
          some v36
  else none
def fX0_stepOf (N : Nat) (h : Hp) (l0 : Option Nat) (l1 : Int32) : Option (Int32) :=
  if isO h l0 0 = true then
  (fX0_teethOf N h l0 l1).bind fun v5 =>
    (fX5_part N h (360 : Int32) v5).bind fun v8 =>
    some v8
  else none
def fX1_init (N : Nat) (h : Hp) (l0 : Option Nat) (l1 : Option Nat) (l2 : Int32) (l3 : Int32) (l4 : Int32) (l5 : Int32) (l6 : Int32) (l7 : Int32) : Option (Hp) :=
  if l0 = none then none else
  (pV h l0 1 0 (.int l2)).bind fun h6 =>
  (pV h6 l0 1 1 (.int l3)).bind fun h11 =>
  (pV h11 l0 1 2 (.int l4)).bind fun h17 =>
  (pV h17 l0 1 3 (.int l5)).bind fun h23 =>
  (pV h23 l0 1 4 (.int l6)).bind fun h29 =>
  (pV h29 l0 1 5 (.int l7)).bind fun h35 =>
  if isO h35 l1 0 = true then
  (fX0_petalsOf N h35 l1 l2 l3).bind fun v42 =>
    (pV h35 l0 1 6 (.int v42)).bind fun h45 =>
    if isO h45 l1 0 = true then
    (fX0_roundsOf N h45 l1 l2 l3).bind fun v52 =>
      (pV h45 l0 1 7 (.int v52)).bind fun h55 =>
      (gI h55 l0 1 6).bind fun v63 =>
      (fX5_part N h55 (360 : Int32) v63).bind fun v66 =>
      (pV h55 l0 1 8 (.int v66)).bind fun h69 =>
      if isO h69 l1 0 = true then
      (fX0_stepOf N h69 l1 l2).bind fun v75 =>
        (pV h69 l0 1 9 (.int ((v75 * l5) + l7))).bind fun h84 =>
        some h84
      else none
    else none
  else none
def fX2_inkWith (N : Nat) (h : Hp) (sz : Nat) (l0 : Option Nat) (l1 : Int32) (l2 : Int32) : Option (Option Nat × Hp × Nat) :=
  (gA h l0 2 1).bind fun v1 =>
  (clI h sz v1).bind fun h4 =>
  if isI h4 (some sz) = true then
    if l1 < 0 then
      some (some sz, h4, sz + 1)
    else
      (aL h4 (some sz)).bind fun v17 =>
      if v17 ≤ l1 then
        some (some sz, h4, sz + 1)
      else
        (wI h4 (some sz) 0 l1 l2).bind fun h24 =>
        some (some sz, h24, sz + 1)
  else none
def fX2_drawn_L14 {α : Type} (N : Nat) (K41 : Hp → Nat → Option Nat → Option Nat → Int32 → Option Nat → Option α) : Nat → Hp → Nat → Option Nat → Option Nat → Int32 → Option Nat → Int32 → Option α
  | 0, _, _, _, _, _, _, _ => none
  | n + 1, h, sz, l0, l1, l2, l3, l4 =>
    (gA h l0 2 2).bind fun v17 =>
    (aL h v17).bind fun v20 =>
    if v20 ≤ l4 then
      K41 h sz l0 l1 l2 l3
    else
      (gA h l0 2 2).bind fun v28 =>
      (rA h v28 2 l4).bind fun v33 =>
      (wA h l3 2 l4 v33).bind fun h34 =>
      fX2_drawn_L14 N K41 n h34 sz l0 l1 l2 l3 (l4 + 1)
def fX2_drawn (N : Nat) (h : Hp) (sz : Nat) (l0 : Option Nat) (l1 : Option Nat) (l2 : Int32) : Option (Option Nat × Hp × Nat) :=
  (gA h l0 2 2).bind fun v1 =>
  (aL h v1).bind fun v4 =>
  if ¬ (v4 + (1 : Int32)) < 0 ∧ (v4 + (1 : Int32)).toNatClampNeg ≤ 16 then
    fX2_drawn_L14 N
      (fun h sz l0 l1 l2 l3 =>
        (gA h l0 2 2).bind fun v43 =>
        (aL h v43).bind fun v46 =>
        (wA h l3 2 v46 l1).bind fun h48 =>
        (gI (up h48 sz (oO 2 [.int 0, .null, .null])) l0 2 0).bind fun v54 =>
        (gI (up h48 sz (oO 2 [.int 0, .null, .null])) l1 1 4).bind fun v59 =>
        (gI (up h48 sz (oO 2 [.int 0, .null, .null])) l1 1 4).bind fun v64 =>
        if isO (up h48 sz (oO 2 [.int 0, .null, .null])) l0 2 = true then
        (fX2_inkOf N (up h48 sz (oO 2 [.int 0, .null, .null])) l0 v64).bind fun v67 =>
          if isO (up h48 sz (oO 2 [.int 0, .null, .null])) l0 2 = true then
          (fX2_inkWith N (up h48 sz (oO 2 [.int 0, .null, .null])) (sz + 1) l0 v59 (v67 - l2)).bind fun z72 =>
            (fX2_init N z72.2.1 (some sz) v54 z72.1 l3).bind fun z76 =>
            some (some sz, z76, z72.2.2)
          else none
        else none)
      N (up h sz (oA 2 ((v4 + (1 : Int32)).toNatClampNeg) (fun _ => none))) (sz + 1) l0 l1 l2 (some sz) (0 : Int32)
  else none
def fX8_losesOldest_L2 {α : Type} (N : Nat) (K28 : Hp → Option Nat → Option α) : Nat → Hp → Option Nat → Int32 → Option α
  | 0, _, _, _ => none
  | n + 1, h, l0, l1 =>
    if (10 : Int32) ≤ l1 then
      K28 h l0
    else
      (gA h l0 8 0).bind fun v9 =>
      (gA h l0 8 0).bind fun v16 =>
      (rA h v16 3 l1).bind fun v20 =>
      (wA h v9 3 (l1 - (1 : Int32)) v20).bind fun h21 =>
      fX8_losesOldest_L2 N K28 n h21 l0 (l1 + 1)
def fX8_losesOldest (N : Nat) (h : Hp) (l0 : Option Nat) : Option (Hp) :=
  fX8_losesOldest_L2 N
    (fun h l0 =>
      (pV h l0 8 1 (.int (9 : Int32))).bind fun h31 =>
      some h31)
    N h l0 (1 : Int32)
def fX8_adds_j13 (N : Nat) (h : Hp) (l0 : Option Nat) (l1 : Option Nat) : Option (Hp) :=
  (gA h l0 8 0).bind fun v14 =>
  (gI h l0 8 1).bind fun v18 =>
  (wA h v14 3 v18 l1).bind fun h22 =>
  (gI h22 l0 8 1).bind fun v25 =>
  (pV h22 l0 8 1 (.int (v25 + (1 : Int32)))).bind fun h30 =>
  some h30
def fX8_adds (N : Nat) (h : Hp) (l0 : Option Nat) (l1 : Option Nat) : Option (Hp) :=
  (gI h l0 8 1).bind fun v1 =>
  if v1 < (10 : Int32) then
    fX8_adds_j13 N h l0 l1
  else
    if isO h l0 8 = true then
    (fX8_losesOldest N h l0).bind fun z10 =>
      fX8_adds_j13 N z10 l0 l1
    else none
def fX5_changeTo (N : Nat) (h : Hp) (l0 : Option Nat) (l1 : Option Nat) : Option (Hp) :=
  (gA h l0 5 4).bind fun v1 =>
  (gA h l0 5 3).bind fun v5 =>
  if isO h v1 8 = true then
  (fX8_adds N h v1 v5).bind fun z8 =>
    (pV z8 l0 5 3 (va_rf l1)).bind fun h13 =>
    some h13
  else none
def fX5_draws (N : Nat) (h : Hp) (sz : Nat) (l0 : Option Nat) (l1 : Int32) (l2 : Int32) (l3 : Int32) (l4 : Int32) (l5 : Int32) : Option (Int32 × Hp × Nat) :=
  (gA h l0 5 2).bind fun v1 =>
  if isO h v1 0 = true then
  (fX0_hasRing N h v1 l1).bind fun v5 =>
    if v5 = 0 then
      some ((-1 : Int32), h, sz)
    else
      (gA h l0 5 2).bind fun v12 =>
      if isO h v12 0 = true then
      (fX0_hasWheel N h v12 l2).bind fun v16 =>
        if v16 = 0 then
          some ((-1 : Int32), h, sz)
        else
          (gA h l0 5 2).bind fun v23 =>
          if isO h v23 0 = true then
          (fX0_hasPen N h v23 l5).bind fun v28 =>
            if v28 = 0 then
              some ((-1 : Int32), h, sz)
            else
              (fX5_within N h l3 (1 : Int32) (9 : Int32)).bind fun v40 =>
              if v40 = 0 then
                some ((-1 : Int32), h, sz)
              else
                (gA h l0 5 2).bind fun v50 =>
                if isO h v50 0 = true then
                (fX0_teethOf N h v50 l1).bind fun v54 =>
                  (fX5_within N h l4 (0 : Int32) (v54 - (1 : Int32))).bind fun v59 =>
                  if v59 = 0 then
                    some ((-1 : Int32), h, sz)
                  else
                    (gA h l0 5 2).bind fun v68 =>
                    if isO h v68 0 = true then
                    (fX0_fits N h v68 l1 l2).bind fun v73 =>
                      if v73 = 0 then
                        some ((-2 : Int32), h, sz)
                      else
                        (gA h l0 5 3).bind fun v80 =>
                        if isO h v80 2 = true then
                        (fX2_inkOf N h v80 l5).bind fun v85 =>
                          (gA h l0 5 2).bind fun v89 =>
                          if isO h v89 0 = true then
                          (fX0_longOf N h v89 l1 l2).bind fun v94 =>
                            if v94 ≤ v85 then
                              (gA h l0 5 3).bind fun v104 =>
                              (gA h v104 2 2).bind fun v107 =>
                              (aL h v107).bind fun v110 =>
                              if v110 < (12 : Int32) then
                                (gA (up h sz (oO 1 [.int 0, .int 0, .int 0, .int 0, .int 0, .int 0, .int 0, .int 0, .int 0, .int 0])) l0 5 2).bind fun v128 =>
                                (gA (up h sz (oO 1 [.int 0, .int 0, .int 0, .int 0, .int 0, .int 0, .int 0, .int 0, .int 0, .int 0])) l0 5 3).bind fun v139 =>
                                (gI (up h sz (oO 1 [.int 0, .int 0, .int 0, .int 0, .int 0, .int 0, .int 0, .int 0, .int 0, .int 0])) v139 2 0).bind fun v142 =>
                                (fX1_init N (up h sz (oO 1 [.int 0, .int 0, .int 0, .int 0, .int 0, .int 0, .int 0, .int 0, .int 0, .int 0])) (some sz) v128 l1 l2 l3 l4 l5 v142).bind fun z145 =>
                                (gA z145 l0 5 3).bind fun v152 =>
                                (gA z145 l0 5 2).bind fun v158 =>
                                if isO z145 v158 0 = true then
                                (fX0_longOf N z145 v158 l1 l2).bind fun v163 =>
                                  if isO z145 v152 2 = true then
                                  (fX2_drawn N z145 (sz + 1) v152 (some sz) v163).bind fun z166 =>
                                    if isO z166.2.1 l0 5 = true then
                                    (fX5_changeTo N z166.2.1 l0 z166.1).bind fun z169 =>
                                      some (v110, z169, z166.2.2)
                                    else none
                                  else none
                                else none
                              else
                                some ((-3 : Int32), h, sz)
                            else
                              some ((-2 : Int32), h, sz)
                          else none
                        else none
                    else none
                else none
          else none
      else none
  else none
def fX6_lays_L18 {α : Type} (N : Nat) (K42 : Hp → Option Nat → Option Nat → Int32 → Option α) : Nat → Hp → Option Nat → Option Nat → Int32 → Int32 → Option α
  | 0, _, _, _, _, _ => none
  | n + 1, h, l0, l1, l2, l3 =>
    if (4 : Int32) ≤ l3 then
      K42 h l0 l1 l2
    else
      (gA h l0 6 7).bind fun v30 =>
      (rI h v30 0 l3).bind fun v34 =>
      (wI h l1 0 ((l2 + (2 : Int32)) + l3) v34).bind fun h35 =>
      fX6_lays_L18 N K42 n h35 l0 l1 l2 (l3 + 1)
def fX6_lays_L44 {α : Type} (N : Nat) (K70 : Hp → Option α) : Nat → Hp → Option Nat → Option Nat → Int32 → Int32 → Option α
  | 0, _, _, _, _, _ => none
  | n + 1, h, l0, l1, l2, l3 =>
    if (72 : Int32) ≤ l3 then
      K70 h
    else
      (gA h l0 6 8).bind fun v58 =>
      (rI h v58 0 l3).bind fun v62 =>
      (wI h l1 0 ((l2 + (6 : Int32)) + l3) v62).bind fun h63 =>
      fX6_lays_L44 N K70 n h63 l0 l1 l2 (l3 + 1)
def fX6_lays (N : Nat) (h : Hp) (l0 : Option Nat) (l1 : Option Nat) (l2 : Int32) : Option (Hp) :=
  (gI h l0 6 5).bind fun v3 =>
  (wI h l1 0 l2 v3).bind fun h6 =>
  (gI h6 l0 6 6).bind fun v12 =>
  (wI h6 l1 0 (l2 + (1 : Int32)) v12).bind fun h15 =>
  fX6_lays_L18 N
    (fun h l0 l1 l2 =>
      fX6_lays_L44 N
        (fun h =>
          some h)
        N h l0 l1 l2 (0 : Int32))
    N h15 l0 l1 l2 (0 : Int32)
def fX6_notes_L11 {α : Type} (N : Nat) (K39 : Hp → Option Nat → Option α) : Nat → Hp → Option Nat → Int32 → Option α
  | 0, _, _, _ => none
  | n + 1, h, l0, l1 =>
    if (702 : Int32) ≤ l1 then
      K39 h l0
    else
      (gA h l0 6 23).bind fun v19 =>
      (gA h l0 6 23).bind fun v24 =>
      (rI h v24 0 (l1 + (78 : Int32))).bind fun v31 =>
      (wI h v19 0 l1 v31).bind fun h32 =>
      fX6_notes_L11 N K39 n h32 l0 (l1 + 1)
def fX6_notes_j49 (N : Nat) (h : Hp) (l0 : Option Nat) : Option (Hp) :=
  (gA h l0 6 23).bind fun v51 =>
  (gI h l0 6 24).bind fun v57 =>
  if isO h l0 6 = true then
  (fX6_lays N h l0 v51 ((78 : Int32) * v57)).bind fun z61 =>
    (gI z61 l0 6 24).bind fun v66 =>
    (pV z61 l0 6 24 (.int (v66 + (1 : Int32)))).bind fun h71 =>
    some h71
  else none
def fX6_notes (N : Nat) (h : Hp) (l0 : Option Nat) : Option (Hp) :=
  (gI h l0 6 24).bind fun v1 =>
  if v1 = (10 : Int32) then
    fX6_notes_L11 N
      (fun h l0 =>
        (gI h l0 6 24).bind fun v41 =>
        (pV h l0 6 24 (.int (v41 - (1 : Int32)))).bind fun h46 =>
        fX6_notes_j49 N h46 l0)
      N h l0 (0 : Int32)
  else
    fX6_notes_j49 N h l0
def fX6_draws (N : Nat) (h : Hp) (l0 : Option Nat) (l1 : Int32) (l2 : Int32) (l3 : Int32) (l4 : Int32) (l5 : Int32) : Option (Int32 × Hp) :=
  if isO h l0 6 = true then
  (fX6_isRing N h l0 l1).bind fun v2 =>
    if v2 = 0 then
      some ((-1 : Int32), h)
    else
      if isO h l0 6 = true then
      (fX6_isWheel N h l0 l2).bind fun v10 =>
        if v10 = 0 then
          some ((-1 : Int32), h)
        else
          (fX6_in N h l3 (1 : Int32) (9 : Int32)).bind fun v20 =>
          if v20 = 0 then
            some ((-1 : Int32), h)
          else
            (gA h l0 6 3).bind fun v30 =>
            (rI h v30 0 l1).bind fun v34 =>
            (fX6_in N h l4 (0 : Int32) (v34 - (1 : Int32))).bind fun v37 =>
            if v37 = 0 then
              some ((-1 : Int32), h)
            else
              if isO h l0 6 = true then
              (fX6_isPen N h l0 l5).bind fun v46 =>
                if v46 = 0 then
                  some ((-1 : Int32), h)
                else
                  if isO h l0 6 = true then
                  (fX6_fits N h l0 l1 l2).bind fun v57 =>
                    if v57 = 0 then
                      some ((-2 : Int32), h)
                    else
                      if isO h l0 6 = true then
                      (fX6_longOf N h l0 l1 l2).bind fun v66 =>
                        (gA h l0 6 7).bind fun v70 =>
                        (rI h v70 0 l5).bind fun v75 =>
                        if v66 ≤ v75 then
                          (gI h l0 6 6).bind fun v83 =>
                          if v83 = (12 : Int32) then
                            some ((-3 : Int32), h)
                          else
                            if isO h l0 6 = true then
                            (fX6_notes N h l0).bind fun z95 =>
                              (gI z95 l0 6 6).bind fun v101 =>
                              (gA z95 l0 6 8).bind fun v108 =>
                              (wI z95 v108 0 ((6 : Int32) * v101) l1).bind fun h114 =>
                              (gA h114 l0 6 8).bind fun v116 =>
                              (wI h114 v116 0 (((6 : Int32) * v101) + (1 : Int32)) l2).bind fun h124 =>
                              (gA h124 l0 6 8).bind fun v126 =>
                              (wI h124 v126 0 (((6 : Int32) * v101) + (2 : Int32)) l3).bind fun h134 =>
                              (gA h134 l0 6 8).bind fun v136 =>
                              (wI h134 v136 0 (((6 : Int32) * v101) + (3 : Int32)) l4).bind fun h145 =>
                              (gA h145 l0 6 8).bind fun v147 =>
                              (wI h145 v147 0 (((6 : Int32) * v101) + (4 : Int32)) l5).bind fun h156 =>
                              (gA h156 l0 6 8).bind fun v158 =>
                              (gI h156 l0 6 5).bind fun v166 =>
                              (wI h156 v158 0 (((6 : Int32) * v101) + (5 : Int32)) v166).bind fun h169 =>
                              (gA h169 l0 6 7).bind fun v171 =>
                              (rI h169 v171 0 l5).bind fun v177 =>
                              if isO h169 l0 6 = true then
                              (fX6_longOf N h169 l0 l1 l2).bind fun v181 =>
                                (wI h169 v171 0 l5 (v177 - v181)).bind fun h185 =>
                                (gI h185 l0 6 6).bind fun v188 =>
                                (pV h185 l0 6 6 (.int (v188 + (1 : Int32)))).bind fun h193 =>
                                (gI h193 l0 6 6).bind fun v197 =>
                                some (v197 - (1 : Int32), h193)
                              else none
                            else none
                        else
                          some ((-2 : Int32), h)
                      else none
                  else none
              else none
      else none
  else none
def fX2_rubbed_L17 {α : Type} (N : Nat) (K49 : Hp → Nat → Option Nat → Option Nat → Option α) : Nat → Hp → Nat → Option Nat → Int32 → Option Nat → Int32 → Option α
  | 0, _, _, _, _, _, _ => none
  | n + 1, h, sz, l0, l1, l2, l3 =>
    (aL h l2).bind fun v19 =>
    if v19 ≤ l3 then
      K49 h sz l0 l2
    else
      (gA h l0 2 2).bind fun v26 =>
      if l1 ≤ l3 then
        (rA h v26 2 (l3 + (1 : Int32))).bind fun v41 =>
        (wA h l2 2 l3 v41).bind fun h42 =>
        fX2_rubbed_L17 N K49 n h42 sz l0 l1 l2 (l3 + 1)
      else
        (rA h v26 2 l3).bind fun v41 =>
        (wA h l2 2 l3 v41).bind fun h42 =>
        fX2_rubbed_L17 N K49 n h42 sz l0 l1 l2 (l3 + 1)
def fX2_rubbed (N : Nat) (h : Hp) (sz : Nat) (l0 : Option Nat) (l1 : Int32) : Option (Option Nat × Hp × Nat) :=
  (gA h l0 2 2).bind fun v1 =>
  (aL h v1).bind fun v4 =>
  if ¬ (jmax (v4 - (1 : Int32)) (0 : Int32)) < 0 ∧ (jmax (v4 - (1 : Int32)) (0 : Int32)).toNatClampNeg ≤ 16 then
    fX2_rubbed_L17 N
      (fun h sz l0 l2 =>
        (gI (up h sz (oO 2 [.int 0, .null, .null])) l0 2 0).bind fun v54 =>
        (gA (up h sz (oO 2 [.int 0, .null, .null])) l0 2 1).bind fun v58 =>
        (fX2_init N (up h sz (oO 2 [.int 0, .null, .null])) (some sz) v54 v58 l2).bind fun z62 =>
        some (some sz, z62, sz + 1))
      N (up h sz (oA 2 ((jmax (v4 - (1 : Int32)) (0 : Int32)).toNatClampNeg) (fun _ => none))) (sz + 1) l0 l1 (some sz) (0 : Int32)
  else none
def fX5_rubs (N : Nat) (h : Hp) (sz : Nat) (l0 : Option Nat) (l1 : Int32) : Option (Int32 × Hp × Nat) :=
  (gA h l0 5 3).bind fun v1 =>
  if isO h v1 2 = true then
  (fX2_curveAt N h v1 l1).bind fun v5 =>
    if v5 = none then
      some ((-1 : Int32), h, sz)
    else
      (gA h l0 5 3).bind fun v15 =>
      if isO h v15 2 = true then
      (fX2_rubbed N h sz v15 l1).bind fun z19 =>
        if isO z19.2.1 l0 5 = true then
        (fX5_changeTo N z19.2.1 l0 z19.1).bind fun z22 =>
          (gA z22 l0 5 3).bind fun v26 =>
          (gA z22 v26 2 2).bind fun v29 =>
          (aL z22 v29).bind fun v32 =>
          some (v32, z22, z19.2.2)
        else none
      else none
  else none
def fX6_rubs_L29 {α : Type} (N : Nat) (K61 : Hp → Option Nat → Option α) : Nat → Hp → Option Nat → Int32 → Option α
  | 0, _, _, _ => none
  | n + 1, h, l0, l2 =>
    (gI h l0 6 6).bind fun v33 =>
    if ((6 : Int32) * v33) ≤ l2 then
      K61 h l0
    else
      (gA h l0 6 8).bind fun v41 =>
      (gA h l0 6 8).bind fun v46 =>
      (rI h v46 0 (l2 + (6 : Int32))).bind fun v53 =>
      (wI h v41 0 l2 v53).bind fun h54 =>
      fX6_rubs_L29 N K61 n h54 l0 (l2 + 1)
def fX6_rubs (N : Nat) (h : Hp) (l0 : Option Nat) (l1 : Int32) : Option (Int32 × Hp) :=
  if isO h l0 6 = true then
  (fX6_isCurve N h l0 l1).bind fun v2 =>
    if v2 = 0 then
      some ((-1 : Int32), h)
    else
      if isO h l0 6 = true then
      (fX6_notes N h l0).bind fun z11 =>
        (gI z11 l0 6 6).bind fun v16 =>
        (pV z11 l0 6 6 (.int (v16 - (1 : Int32)))).bind fun h21 =>
        fX6_rubs_L29 N
          (fun h l0 =>
            (gI h l0 6 6).bind fun v62 =>
            some (v62, h))
          N h21 l0 ((6 : Int32) * l1)
      else none
  else none
def fX2_turned (N : Nat) (h : Hp) (sz : Nat) (l0 : Option Nat) (l1 : Int32) : Option (Option Nat × Hp × Nat) :=
  (gI (up h sz (oO 2 [.int 0, .null, .null])) l0 2 0).bind fun v5 =>
  (fX5_rest N (up h sz (oO 2 [.int 0, .null, .null])) (v5 + l1) (360 : Int32)).bind fun v13 =>
  (gA (up h sz (oO 2 [.int 0, .null, .null])) l0 2 1).bind fun v17 =>
  (gA (up h sz (oO 2 [.int 0, .null, .null])) l0 2 2).bind fun v21 =>
  (fX2_init N (up h sz (oO 2 [.int 0, .null, .null])) (some sz) v13 v17 v21).bind fun z24 =>
  some (some sz, z24, sz + 1)
def fX5_spins (N : Nat) (h : Hp) (sz : Nat) (l0 : Option Nat) (l1 : Int32) : Option (Int32 × Hp × Nat) :=
  (fX5_within N h l1 (1 : Int32) (359 : Int32)).bind fun v5 =>
  if v5 = 0 then
    some ((-1 : Int32), h, sz)
  else
    (gA h l0 5 3).bind fun v15 =>
    if isO h v15 2 = true then
    (fX2_turned N h sz v15 l1).bind fun z19 =>
      if isO z19.2.1 l0 5 = true then
      (fX5_changeTo N z19.2.1 l0 z19.1).bind fun z22 =>
        (gA z22 l0 5 3).bind fun v26 =>
        (gI z22 v26 2 0).bind fun v29 =>
        some (v29, z22, z19.2.2)
      else none
    else none
def fX6_spins (N : Nat) (h : Hp) (l0 : Option Nat) (l1 : Int32) : Option (Int32 × Hp) :=
  (fX6_in N h l1 (1 : Int32) (359 : Int32)).bind fun v5 =>
  if v5 = 0 then
    some ((-1 : Int32), h)
  else
    if isO h l0 6 = true then
    (fX6_notes N h l0).bind fun z14 =>
      (gI z14 l0 6 5).bind fun v19 =>
      (pV z14 l0 6 5 (.int (jrem (v19 + l1) (360 : Int32)))).bind fun h28 =>
      (gI h28 l0 6 5).bind fun v32 =>
      some (v32, h28)
    else none
def fX2_filled (N : Nat) (h : Hp) (sz : Nat) (l0 : Option Nat) (l1 : Int32) (l2 : Int32) : Option (Option Nat × Hp × Nat) :=
  if isO h l0 2 = true then
  (fX2_inkOf N h l0 l1).bind fun v4 =>
    if isO h l0 2 = true then
    (fX2_inkWith N h sz l0 l1 (jmin (v4 + l2) (999 : Int32))).bind fun z15 =>
      (gI (up z15.2.1 z15.2.2 (oO 2 [.int 0, .null, .null])) l0 2 0).bind fun v24 =>
      (gA (up z15.2.1 z15.2.2 (oO 2 [.int 0, .null, .null])) l0 2 2).bind fun v29 =>
      (fX2_init N (up z15.2.1 z15.2.2 (oO 2 [.int 0, .null, .null])) (some z15.2.2) v24 z15.1 v29).bind fun z32 =>
      some (some z15.2.2, z32, z15.2.2 + 1)
    else none
  else none
def fX5_fills (N : Nat) (h : Hp) (sz : Nat) (l0 : Option Nat) (l1 : Int32) (l2 : Int32) : Option (Int32 × Hp × Nat) :=
  (gA h l0 5 2).bind fun v1 =>
  if isO h v1 0 = true then
  (fX0_hasPen N h v1 l1).bind fun v5 =>
    if v5 = 0 then
      some ((-1 : Int32), h, sz)
    else
      (fX5_within N h l2 (1 : Int32) (999 : Int32)).bind fun v16 =>
      if v16 = 0 then
        some ((-1 : Int32), h, sz)
      else
        (gA h l0 5 3).bind fun v25 =>
        if isO h v25 2 = true then
        (fX2_inkOf N h v25 l1).bind fun v29 =>
          if v29 < (999 : Int32) then
            (gA h l0 5 3).bind fun v43 =>
            if isO h v43 2 = true then
            (fX2_filled N h sz v43 l1 l2).bind fun z48 =>
              if isO z48.2.1 l0 5 = true then
              (fX5_changeTo N z48.2.1 l0 z48.1).bind fun z51 =>
                (gA z51 l0 5 3).bind fun v55 =>
                if isO z51 v55 2 = true then
                (fX2_inkOf N z51 v55 l1).bind fun v59 =>
                  some (v59, z51, z48.2.2)
                else none
              else none
            else none
          else
            some ((-2 : Int32), h, sz)
        else none
  else none
def fX6_fills (N : Nat) (h : Hp) (l0 : Option Nat) (l1 : Int32) (l2 : Int32) : Option (Int32 × Hp) :=
  if isO h l0 6 = true then
  (fX6_isPen N h l0 l1).bind fun v2 =>
    if v2 = 0 then
      some ((-1 : Int32), h)
    else
      (fX6_in N h l2 (1 : Int32) (999 : Int32)).bind fun v13 =>
      if v13 = 0 then
        some ((-1 : Int32), h)
      else
        (gA h l0 6 7).bind fun v22 =>
        (rI h v22 0 l1).bind fun v26 =>
        if v26 = (999 : Int32) then
          some ((-2 : Int32), h)
        else
          if isO h l0 6 = true then
          (fX6_notes N h l0).bind fun z37 =>
            (gA z37 l0 6 7).bind fun v41 =>
            (gA z37 l0 6 7).bind fun v46 =>
            (rI z37 v46 0 l1).bind fun v50 =>
            if (v50 + l2) ≤ (999 : Int32) then
              (gA z37 l0 6 7).bind fun v66 =>
              (rI z37 v66 0 l1).bind fun v70 =>
              (wI z37 v41 0 l1 (v70 + l2)).bind fun h73 =>
              (gA h73 l0 6 7).bind fun v75 =>
              (rI h73 v75 0 l1).bind fun v79 =>
              some (v79, h73)
            else
              (wI z37 v41 0 l1 (999 : Int32)).bind fun h73 =>
              (gA h73 l0 6 7).bind fun v75 =>
              (rI h73 v75 0 l1).bind fun v79 =>
              some (v79, h73)
          else none
  else none
def fX8_takesLatest (N : Nat) (h : Hp) (l0 : Option Nat) : Option (Option Nat × Hp) :=
  (gI h l0 8 1).bind fun v1 =>
  if 0 < v1 then
    (gI h l0 8 1).bind fun v11 =>
    (pV h l0 8 1 (.int (v11 - (1 : Int32)))).bind fun h16 =>
    (gA h16 l0 8 0).bind fun v20 =>
    (gI h16 l0 8 1).bind fun v24 =>
    (rA h16 v20 3 v24).bind fun v27 =>
    (gA h16 l0 8 0).bind fun v30 =>
    (gI h16 l0 8 1).bind fun v34 =>
    (wA h16 v30 3 v34 none).bind fun h38 =>
    some (v27, h38)
  else
    some (none, h)
def fX5_undo (N : Nat) (h : Hp) (l0 : Option Nat) : Option (Int32 × Hp) :=
  (gA h l0 5 4).bind fun v1 =>
  if isO h v1 8 = true then
  (fX8_takesLatest N h v1).bind fun z4 =>
    if z4.1 = none then
      some ((-2 : Int32), z4.2)
    else
      (pV z4.2 l0 5 3 (va_rf z4.1)).bind fun h17 =>
      (gA h17 l0 5 4).bind fun v21 =>
      (gI h17 v21 8 1).bind fun v24 =>
      some (v24, h17)
  else none
def fX6_takes_L18 {α : Type} (N : Nat) (K42 : Hp → Option Nat → Option Nat → Int32 → Option α) : Nat → Hp → Option Nat → Option Nat → Int32 → Int32 → Option α
  | 0, _, _, _, _, _ => none
  | n + 1, h, l0, l1, l2, l3 =>
    if (4 : Int32) ≤ l3 then
      K42 h l0 l1 l2
    else
      (gA h l0 6 7).bind fun v24 =>
      (rI h l1 0 ((l2 + (2 : Int32)) + l3)).bind fun v34 =>
      (wI h v24 0 l3 v34).bind fun h35 =>
      fX6_takes_L18 N K42 n h35 l0 l1 l2 (l3 + 1)
def fX6_takes_L44 {α : Type} (N : Nat) (K70 : Hp → Option α) : Nat → Hp → Option Nat → Option Nat → Int32 → Int32 → Option α
  | 0, _, _, _, _, _ => none
  | n + 1, h, l0, l1, l2, l3 =>
    if (72 : Int32) ≤ l3 then
      K70 h
    else
      (gA h l0 6 8).bind fun v51 =>
      (rI h l1 0 ((l2 + (6 : Int32)) + l3)).bind fun v62 =>
      (wI h v51 0 l3 v62).bind fun h63 =>
      fX6_takes_L44 N K70 n h63 l0 l1 l2 (l3 + 1)
def fX6_takes (N : Nat) (h : Hp) (l0 : Option Nat) (l1 : Option Nat) (l2 : Int32) : Option (Hp) :=
  (rI h l1 0 l2).bind fun v3 =>
  (pV h l0 6 5 (.int v3)).bind fun h4 =>
  (rI h4 l1 0 (l2 + (1 : Int32))).bind fun v12 =>
  (pV h4 l0 6 6 (.int v12)).bind fun h13 =>
  fX6_takes_L18 N
    (fun h l0 l1 l2 =>
      fX6_takes_L44 N
        (fun h =>
          some h)
        N h l0 l1 l2 (0 : Int32))
    N h13 l0 l1 l2 (0 : Int32)
def fX6_undo (N : Nat) (h : Hp) (l0 : Option Nat) : Option (Int32 × Hp) :=
  (gI h l0 6 24).bind fun v1 =>
  if v1 = 0 then
    some ((-2 : Int32), h)
  else
    (gI h l0 6 24).bind fun v12 =>
    (pV h l0 6 24 (.int (v12 - (1 : Int32)))).bind fun h17 =>
    (gA h17 l0 6 23).bind fun v22 =>
    (gI h17 l0 6 24).bind fun v28 =>
    if isO h17 l0 6 = true then
    (fX6_takes N h17 l0 v22 ((78 : Int32) * v28)).bind fun z32 =>
      (gI z32 l0 6 24).bind fun v36 =>
      some (v36, z32)
    else none
def fX5_pointsShown_L4 {α : Type} (N : Nat) (K45 : Hp → Int32 → Option α) : Nat → Hp → Option Nat → Int32 → Int32 → Option α
  | 0, _, _, _, _ => none
  | n + 1, h, l0, l1, l2 =>
    if (9 : Int32) < l2 then
      K45 h l1
    else
      (gA h l0 5 3).bind fun v11 =>
      if isO h v11 2 = true then
      (fX2_hasCurveIn N h v11 l2).bind fun v15 =>
        if v15 = 0 then
          fX5_pointsShown_L4 N K45 n h l0 l1 (l2 + 1)
        else
          if isO h l0 5 = true then
          (fX5_noteShown N h l0 l2).bind fun z23 =>
            if isO z23 l0 5 = true then
            (fX5_pointsNoted N z23 l0 (-9 : Int32)).bind fun v33 =>
              fX5_pointsShown_L4 N K45 n z23 l0 (l1 + ((360 : Int32) - v33)) (l2 + 1)
            else none
          else none
      else none
def fX5_pointsShown (N : Nat) (h : Hp) (l0 : Option Nat) : Option (Int32 × Hp) :=
  fX5_pointsShown_L4 N
    (fun h l1 =>
      some (l1, h))
    N h l0 (0 : Int32) (1 : Int32)
def fX5_isSameTurned_L2 {α : Type} (N : Nat) (h : Hp) (K32 : Option α) (K40 : Option α) : Nat → Option Nat → Int32 → Int32 → Option α
  | 0, _, _, _ => none
  | n + 1, l0, l1, l2 =>
    if (360 : Int32) ≤ l2 then
      K40
    else
      (gA h l0 5 7).bind fun v10 =>
      (rI h v10 0 l2).bind fun v14 =>
      (gA h l0 5 7).bind fun v16 =>
      (fX5_rest N h (l2 + l1) (360 : Int32)).bind fun v25 =>
      (rI h v16 0 v25).bind fun v28 =>
      if v14 = v28 then
        fX5_isSameTurned_L2 N h K32 K40 n l0 l1 (l2 + 1)
      else
        K32
def fX5_isSameTurned (N : Nat) (h : Hp) (l0 : Option Nat) (l1 : Int32) : Option (Int32) :=
  fX5_isSameTurned_L2 N h
    (
      some (0 : Int32))
    (
      some (1 : Int32))
    N l0 l1 (0 : Int32)
def fX5_likeOfRow_L4 {α : Type} (N : Nat) (h : Hp) (K29 : Int32 → Option α) (K37 : Option α) : Nat → Option Nat → Int32 → Option α
  | 0, _, _ => none
  | n + 1, l0, l1 =>
    if l1 ≤ (1 : Int32) then
      K37
    else
      if l1 = 0 then none else
      if (jrem (360 : Int32) l1) = 0 then
        if l1 = 0 then none else
        if isO h l0 5 = true then
        (fX5_isSameTurned N h l0 ((360 : Int32) / l1)).bind fun v23 =>
          if v23 = 0 then
            fX5_likeOfRow_L4 N h K29 K37 n l0 (l1 + (-1))
          else
            K29 l1
        else none
      else
        fX5_likeOfRow_L4 N h K29 K37 n l0 (l1 + (-1))
def fX5_likeOfRow (N : Nat) (h : Hp) (l0 : Option Nat) : Option (Int32) :=
  fX5_likeOfRow_L4 N h
    (fun l1 =>
      some l1)
    (
      some (1 : Int32))
    N l0 (360 : Int32)
def fX5_like_L6 {α : Type} (N : Nat) (K43 : Hp → Int32 → Option α) : Nat → Hp → Option Nat → Int32 → Int32 → Option α
  | 0, _, _, _, _ => none
  | n + 1, h, l0, l1, l2 =>
    if (9 : Int32) < l2 then
      K43 h l1
    else
      (gA h l0 5 3).bind fun v13 =>
      if isO h v13 2 = true then
      (fX2_hasCurveIn N h v13 l2).bind fun v17 =>
        if v17 = 0 then
          fX5_like_L6 N K43 n h l0 l1 (l2 + 1)
        else
          if isO h l0 5 = true then
          (fX5_notePens N h l0 l2).bind fun z25 =>
            if isO z25 l0 5 = true then
            (fX5_likeOfRow N z25 l0).bind fun v30 =>
              (fX5_greatestDivisor N z25 l1 v30).bind fun v33 =>
              fX5_like_L6 N K43 n z25 l0 v33 (l2 + 1)
            else none
          else none
      else none
def fX5_like (N : Nat) (h : Hp) (l0 : Option Nat) : Option (Int32 × Hp) :=
  fX5_like_L6 N
    (fun h l1 =>
      some (l1, h))
    N h l0 (360 : Int32) (1 : Int32)
def fX5_now (N : Nat) (h : Hp) (l0 : Option Nat) (l1 : Int32) : Option (Int32 × Hp) :=
  if l1 = 0 then
    (gA h l0 5 3).bind fun v33 =>
    (gI h v33 2 0).bind fun v36 =>
    some (v36, h)
  else
  if l1 = 1 then
    (gA h l0 5 3).bind fun v41 =>
    (gA h v41 2 2).bind fun v44 =>
    (aL h v44).bind fun v47 =>
    some (v47, h)
  else
  if l1 = 2 then
    if isO h l0 5 = true then
    (fX5_pointsShown N h l0).bind fun z50 =>
      some (z50.1, z50.2)
    else none
  else
  if l1 = 3 then
    if isO h l0 5 = true then
    (fX5_like N h l0).bind fun z55 =>
      some (z55.1, z55.2)
    else none
  else
    some ((-1 : Int32), h)
def fX6_shownMany_L13 {α : Type} (N : Nat) (h : Hp) (K44 : Option Nat → Int32 → Int32 → Option α) : Nat → Option Nat → Int32 → Int32 → Int32 → Option α
  | 0, _, _, _, _ => none
  | n + 1, l0, l1, l2, l3 =>
    if (9 : Int32) < l3 then
      K44 l0 l1 l2
    else
      if isO h l0 6 = true then
      (fX6_shownAt N h l0 l2 l3).bind fun v23 =>
        if v23 = (-9 : Int32) then
          fX6_shownMany_L13 N h K44 n l0 (l1 + (0 : Int32)) l2 (l3 + 1)
        else
          fX6_shownMany_L13 N h K44 n l0 (l1 + (1 : Int32)) l2 (l3 + 1)
      else none
def fX6_shownMany_L4 {α : Type} (N : Nat) (h : Hp) (K50 : Int32 → Option α) : Nat → Option Nat → Int32 → Int32 → Option α
  | 0, _, _, _ => none
  | n + 1, l0, l1, l2 =>
    if (360 : Int32) ≤ l2 then
      K50 l1
    else
      fX6_shownMany_L13 N h
        (fun l0 l1 l2 =>
          fX6_shownMany_L4 N h K50 n l0 l1 (l2 + 1))
        N l0 l1 l2 (1 : Int32)
def fX6_shownMany (N : Nat) (h : Hp) (l0 : Option Nat) : Option (Int32) :=
  fX6_shownMany_L4 N h
    (fun l1 =>
      some l1)
    N l0 (0 : Int32) (0 : Int32)
def fX6_isLike_L23 {α : Type} (N : Nat) (h : Hp) (K74 : Option Nat → Int32 → Int32 → Int32 → Option α) : Nat → Option Nat → Int32 → Int32 → Int32 → Int32 → Int32 → Option α
  | 0, _, _, _, _, _, _ => none
  | n + 1, l0, l1, l2, l3, l4, l5 =>
    if (9 : Int32) ≤ l5 then
      K74 l0 l1 l2 l3
    else
      if l2 = 0 then
        fX6_isLike_L23 N h K74 n l0 l1 (0 : Int32) l3 l4 (l5 + 1)
      else
        (gA h l0 6 25).bind fun v35 =>
        (rI h v35 0 (((9 : Int32) * l3) + l5)).bind fun v45 =>
        (gA h l0 6 25).bind fun v47 =>
        (rI h v47 0 (((9 : Int32) * l4) + l5)).bind fun v58 =>
        if v45 = v58 then
          fX6_isLike_L23 N h K74 n l0 l1 (1 : Int32) l3 l4 (l5 + 1)
        else
          fX6_isLike_L23 N h K74 n l0 l1 (0 : Int32) l3 l4 (l5 + 1)
def fX6_isLike_L4 {α : Type} (N : Nat) (h : Hp) (K80 : Int32 → Option α) : Nat → Option Nat → Int32 → Int32 → Int32 → Option α
  | 0, _, _, _, _ => none
  | n + 1, l0, l1, l2, l3 =>
    if (360 : Int32) ≤ l3 then
      K80 l2
    else
      fX6_isLike_L23 N h
        (fun l0 l1 l2 l3 =>
          fX6_isLike_L4 N h K80 n l0 l1 l2 (l3 + 1))
        N l0 l1 l2 l3 (jrem (l3 + l1) (360 : Int32)) (0 : Int32)
def fX6_isLike (N : Nat) (h : Hp) (l0 : Option Nat) (l1 : Int32) : Option (Int32) :=
  fX6_isLike_L4 N h
    (fun l2 =>
      if l2 = 0 ∨ l2 = 1 then some l2 else none)
    N l0 l1 (1 : Int32) (0 : Int32)
def fX6_like_L11 {α : Type} (N : Nat) (K42 : Hp → Option Nat → Int32 → Option α) : Nat → Hp → Option Nat → Int32 → Int32 → Option α
  | 0, _, _, _, _ => none
  | n + 1, h, l0, l1, l2 =>
    if (9 : Int32) ≤ l2 then
      K42 h l0 l1
    else
      (gA h l0 6 25).bind fun v18 =>
      if isO h l0 6 = true then
      (fX6_penAt N h l0 l1 (l2 + (1 : Int32))).bind fun v32 =>
        (wI h v18 0 (((9 : Int32) * l1) + l2) v32).bind fun h35 =>
        fX6_like_L11 N K42 n h35 l0 l1 (l2 + 1)
      else none
def fX6_like_L2 {α : Type} (N : Nat) (K48 : Hp → Option Nat → Option α) : Nat → Hp → Option Nat → Int32 → Option α
  | 0, _, _, _ => none
  | n + 1, h, l0, l1 =>
    if (360 : Int32) ≤ l1 then
      K48 h l0
    else
      fX6_like_L11 N
        (fun h l0 l1 =>
          fX6_like_L2 N K48 n h l0 (l1 + 1))
        N h l0 l1 (0 : Int32)
def fX6_like_L52 {α : Type} (N : Nat) (K78 : Hp → Int32 → Option α) : Nat → Hp → Option Nat → Int32 → Option α
  | 0, _, _, _ => none
  | n + 1, h, l0, l1 =>
    if l1 = 0 then none else
    if (jrem (360 : Int32) l1) = 0 then
      if l1 = 0 then none else
      if isO h l0 6 = true then
      (fX6_isLike N h l0 ((360 : Int32) / l1)).bind fun v66 =>
        if v66 = 0 then
          fX6_like_L52 N K78 n h l0 (l1 + (-1))
        else
          K78 h l1
      else none
    else
      fX6_like_L52 N K78 n h l0 (l1 + (-1))
def fX6_like (N : Nat) (h : Hp) (l0 : Option Nat) : Option (Int32 × Hp) :=
  fX6_like_L2 N
    (fun h l0 =>
      fX6_like_L52 N
        (fun h l1 =>
          some (l1, h))
        N h l0 (360 : Int32))
    N h l0 (0 : Int32)
def fX6_now (N : Nat) (h : Hp) (l0 : Option Nat) (l1 : Int32) : Option (Int32 × Hp) :=
  (fX6_in N h l1 (0 : Int32) (3 : Int32)).bind fun v3 =>
  if v3 = 0 then
    some ((-1 : Int32), h)
  else
    if l1 = 0 then
      (gI h l0 6 5).bind fun v16 =>
      some (v16, h)
    else
      if l1 = (1 : Int32) then
        (gI h l0 6 6).bind fun v28 =>
        some (v28, h)
      else
        if l1 = (2 : Int32) then
          if isO h l0 6 = true then
          (fX6_shownMany N h l0).bind fun v40 =>
            some (v40, h)
          else none
        else
          if isO h l0 6 = true then
          (fX6_like N h l0).bind fun z47 =>
            some (z47.1, z47.2)
          else none
def fX1_hasTip (N : Nat) (h : Hp) (l0 : Option Nat) (l1 : Int32) (l2 : Int32) : Option (Int32) :=
  (gI h l0 1 2).bind fun v2 =>
  if l2 = v2 then
    (gI h l0 1 9).bind fun v10 =>
    (gI h l0 1 8).bind fun v15 =>
    (fX5_rest N h (l1 - v10) v15).bind fun v18 =>
    if v18 = 0 then
      some (1 : Int32)
    else
      some (0 : Int32)
  else
    some (0 : Int32)
def fX5_shown_L34 {α : Type} (N : Nat) (h : Hp) (K63 : Int32 → Option α) (K71 : Option α) : Nat → Option Nat → Int32 → Int32 → Int32 → Option α
  | 0, _, _, _, _ => none
  | n + 1, l0, l1, l2, l3 =>
    if l3 < 0 then
      K71
    else
      (gA h l0 5 3).bind fun v39 =>
      if isO h v39 2 = true then
      (fX2_curveAt N h v39 l3).bind fun v43 =>
        if v43 = none then
          fX5_shown_L34 N h K63 K71 n l0 l1 l2 (l3 + (-1))
        else
          if isO h v43 1 = true then
          (fX1_hasTip N h v43 l1 l2).bind fun v57 =>
            if v57 = 0 then
              fX5_shown_L34 N h K63 K71 n l0 l1 l2 (l3 + (-1))
            else
              K63 l3
          else none
      else none
def fX5_shown (N : Nat) (h : Hp) (l0 : Option Nat) (l1 : Int32) (l2 : Int32) : Option (Int32) :=
  (fX5_within N h l1 (0 : Int32) (359 : Int32)).bind fun v5 =>
  if v5 = 0 then
    some (-1 : Int32)
  else
    (fX5_within N h l2 (1 : Int32) (9 : Int32)).bind fun v15 =>
    if v15 = 0 then
      some (-1 : Int32)
    else
      (gA h l0 5 3).bind fun v24 =>
      (gA h v24 2 2).bind fun v27 =>
      (aL h v27).bind fun v30 =>
      fX5_shown_L34 N h
        (fun l3 =>
          some l3)
        (
          some (-9 : Int32))
        N l0 l1 l2 (v30 - (1 : Int32))
def fX6_shown (N : Nat) (h : Hp) (l0 : Option Nat) (l1 : Int32) (l2 : Int32) : Option (Int32) :=
  (fX6_in N h l1 (0 : Int32) (359 : Int32)).bind fun v5 =>
  if v5 = 0 then
    some (-1 : Int32)
  else
    (fX6_in N h l2 (1 : Int32) (9 : Int32)).bind fun v15 =>
    if v15 = 0 then
      some (-1 : Int32)
    else
      if isO h l0 6 = true then
      (fX6_shownAt N h l0 l1 l2).bind fun v24 =>
        some v24
      else none
def fX5_petals_L25 {α : Type} (N : Nat) (h : Hp) (K61 : Int32 → Option α) (K69 : Option α) : Nat → Option Nat → Int32 → Int32 → Int32 → Option α
  | 0, _, _, _, _ => none
  | n + 1, l0, l1, l2, l3 =>
    (gA h l0 5 2).bind fun v27 =>
    (gI h v27 0 4).bind fun v30 =>
    if v30 ≤ l3 then
      K69
    else
      (gA h l0 5 2).bind fun v37 =>
      if isO h v37 0 = true then
      (fX0_fits N h v37 l1 l3).bind fun v42 =>
        if v42 = 0 then
          fX5_petals_L25 N h K61 K69 n l0 l1 l2 (l3 + 1)
        else
          (gA h l0 5 2).bind fun v49 =>
          if isO h v49 0 = true then
          (fX0_petalsOf N h v49 l1 l3).bind fun v54 =>
            if v54 = l2 then
              K61 l3
            else
              fX5_petals_L25 N h K61 K69 n l0 l1 l2 (l3 + 1)
          else none
      else none
def fX5_petals (N : Nat) (h : Hp) (l0 : Option Nat) (l1 : Int32) (l2 : Int32) : Option (Int32) :=
  (gA h l0 5 2).bind fun v1 =>
  if isO h v1 0 = true then
  (fX0_hasRing N h v1 l1).bind fun v5 =>
    if v5 = 0 then
      some (-1 : Int32)
    else
      (fX5_within N h l2 (1 : Int32) (120 : Int32)).bind fun v15 =>
      if v15 = 0 then
        some (-1 : Int32)
      else
        fX5_petals_L25 N h
          (fun l3 =>
            some l3)
          (
            some (-9 : Int32))
          N l0 l1 l2 (0 : Int32)
  else none
def fX6_petals_L22 {α : Type} (N : Nat) (h : Hp) (K49 : Int32 → Option α) (K57 : Option α) : Nat → Option Nat → Int32 → Int32 → Int32 → Option α
  | 0, _, _, _, _ => none
  | n + 1, l0, l1, l2, l3 =>
    (gI h l0 6 1).bind fun v24 =>
    if v24 ≤ l3 then
      K57
    else
      if isO h l0 6 = true then
      (fX6_fits N h l0 l1 l3).bind fun v33 =>
        if v33 = 0 then
          fX6_petals_L22 N h K49 K57 n l0 l1 l2 (l3 + 1)
        else
          if isO h l0 6 = true then
          (fX6_petalsOf N h l0 l1 l3).bind fun v42 =>
            if v42 = l2 then
              K49 l3
            else
              fX6_petals_L22 N h K49 K57 n l0 l1 l2 (l3 + 1)
          else none
      else none
def fX6_petals (N : Nat) (h : Hp) (l0 : Option Nat) (l1 : Int32) (l2 : Int32) : Option (Int32) :=
  if isO h l0 6 = true then
  (fX6_isRing N h l0 l1).bind fun v2 =>
    if v2 = 0 then
      some (-1 : Int32)
    else
      (fX6_in N h l2 (1 : Int32) (120 : Int32)).bind fun v12 =>
      if v12 = 0 then
        some (-1 : Int32)
      else
        fX6_petals_L22 N h
          (fun l3 =>
            some l3)
          (
            some (-9 : Int32))
          N l0 l1 l2 (0 : Int32)
  else none
def fX5_noteBareTeeth_j86 {α : Type} (N : Nat) (K20 : Hp → Option Nat → Int32 → Int32 → Int32 → Int32 → Option α) (h : Hp) (l0 : Option Nat) (l1 : Int32) (l3 : Int32) (l4 : Int32) (l5 : Int32) (s0 : Int32) (s1 : Int32) (s2 : Option Nat) : Option α :=
  (wI h s2 0 s1 s0).bind fun h86 =>
  (gA h86 l0 5 8).bind fun v90 =>
  (rI h86 v90 0 l5).bind fun v95 =>
  K20 h86 l0 l1 l3 (l4 + v95) (l5 + 1)
def fX5_noteBareTeeth_L20 {α : Type} (N : Nat) (K105 : Hp → Int32 → Option α) : Nat → Hp → Option Nat → Int32 → Int32 → Int32 → Int32 → Option α
  | 0, _, _, _, _, _, _ => none
  | n + 1, h, l0, l1, l3, l4, l5 =>
    (gA h l0 5 2).bind fun v23 =>
    if isO h v23 0 = true then
    (fX0_teethOf N h v23 l1).bind fun v27 =>
      if v27 ≤ l5 then
        K105 h l4
      else
        (gA h l0 5 8).bind fun v36 =>
        (aL h v36).bind fun v39 =>
        if v39 ≤ l5 then
          K105 h l4
        else
          (gA h l0 5 3).bind fun v48 =>
          (gI h v48 2 0).bind fun v51 =>
          (fX5_rest N h ((l3 * l5) + v51) (360 : Int32)).bind fun v58 =>
          (gA h l0 5 8).bind fun v64 =>
          (gA h l0 5 7).bind fun v70 =>
          (rI h v70 0 v58).bind fun v75 =>
          if v75 = (-9 : Int32) then
            fX5_noteBareTeeth_j86 N (fX5_noteBareTeeth_L20 N K105 n) h l0 l1 l3 l4 l5 (1 : Int32) l5 v64
          else
            fX5_noteBareTeeth_j86 N (fX5_noteBareTeeth_L20 N K105 n) h l0 l1 l3 l4 l5 (0 : Int32) l5 v64
    else none
def fX5_noteBareTeeth (N : Nat) (h : Hp) (l0 : Option Nat) (l1 : Int32) (l2 : Int32) : Option (Int32 × Hp) :=
  if isO h l0 5 = true then
  (fX5_noteShown N h l0 l2).bind fun z2 =>
    (gA z2 l0 5 2).bind fun v6 =>
    if isO z2 v6 0 = true then
    (fX0_stepOf N z2 v6 l1).bind fun v10 =>
      fX5_noteBareTeeth_L20 N
        (fun h l4 =>
          some (l4, h))
        N z2 l0 l1 v10 (0 : Int32) (0 : Int32)
    else none
  else none
def fX5_isClassBare_L10 {α : Type} (N : Nat) (h : Hp) (K37 : Option α) (K49 : Option α) : Nat → Option Nat → Int32 → Int32 → Int32 → Option α
  | 0, _, _, _, _ => none
  | n + 1, l0, l2, l4, l5 =>
    if l2 ≤ l5 then
      K49
    else
      (gA h l0 5 8).bind fun v19 =>
      (aL h v19).bind fun v22 =>
      if v22 ≤ l5 then
        K49
      else
        (gA h l0 5 8).bind fun v27 =>
        (rI h v27 0 l5).bind fun v32 =>
        if v32 = (1 : Int32) then
          K37
        else
          fX5_isClassBare_L10 N h K37 K49 n l0 l2 l4 (l5 + l4)
def fX5_isClassBare (N : Nat) (h : Hp) (l0 : Option Nat) (l1 : Int32) (l2 : Int32) (l3 : Int32) : Option (Int32) :=
  fX5_isClassBare_L10 N h
    (
      some (1 : Int32))
    (
      some (0 : Int32))
    N l0 l2 (jmax l3 (1 : Int32)) l1
def fX5_curvesNeeded_L5 {α : Type} (N : Nat) (h : Hp) (K31 : Int32 → Option α) : Nat → Option Nat → Int32 → Int32 → Int32 → Int32 → Option α
  | 0, _, _, _, _, _ => none
  | n + 1, l0, l1, l2, l3, l4 =>
    if l2 ≤ l4 then
      K31 l3
    else
      if isO h l0 5 = true then
      (fX5_isClassBare N h l0 l4 l1 l2).bind fun v16 =>
        if v16 = 0 then
          fX5_curvesNeeded_L5 N h K31 n l0 l1 l2 l3 (l4 + 1)
        else
          fX5_curvesNeeded_L5 N h K31 n l0 l1 l2 (l3 + 1) (l4 + 1)
      else none
def fX5_curvesNeeded (N : Nat) (h : Hp) (l0 : Option Nat) (l1 : Int32) (l2 : Int32) : Option (Int32) :=
  fX5_curvesNeeded_L5 N h
    (fun l3 =>
      some l3)
    N l0 l1 l2 (0 : Int32) (0 : Int32)
def fX5_closes_L63 {α : Type} (N : Nat) (K140 : Hp → Int32 → Int32 → Int32 → Option α) : Nat → Hp → Option Nat → Int32 → Int32 → Int32 → Int32 → Int32 → Option α
  | 0, _, _, _, _, _, _, _ => none
  | n + 1, h, l0, l1, l3, l4, l5, l6 =>
    (gA h l0 5 2).bind fun v66 =>
    (gI h v66 0 4).bind fun v69 =>
    if v69 ≤ l6 then
      K140 h l3 l4 l5
    else
      (gA h l0 5 2).bind fun v76 =>
      if isO h v76 0 = true then
      (fX0_fits N h v76 l1 l6).bind fun v82 =>
        if v82 = 0 then
          fX5_closes_L63 N K140 n h l0 l1 l3 l4 l5 (l6 + 1)
        else
          (gA h l0 5 2).bind fun v90 =>
          if isO h v90 0 = true then
          (fX0_teethOf N h v90 l1).bind fun v94 =>
            (gA h l0 5 2).bind fun v98 =>
            if isO h v98 0 = true then
            (fX0_divisorOf N h v98 l1 l6).bind fun v104 =>
              if isO h l0 5 = true then
              (fX5_curvesNeeded N h l0 v94 v104).bind fun v107 =>
                if l5 = (-9 : Int32) then
                  fX5_closes_L63 N K140 n h l0 l1 l3 v107 l6 (l6 + 1)
                else
                  if l4 ≤ v107 then
                    fX5_closes_L63 N K140 n h l0 l1 l3 l4 l5 (l6 + 1)
                  else
                    fX5_closes_L63 N K140 n h l0 l1 l3 v107 l6 (l6 + 1)
              else none
            else none
          else none
      else none
def fX5_closes (N : Nat) (h : Hp) (l0 : Option Nat) (l1 : Int32) (l2 : Int32) (l3 : Int32) : Option (Int32 × Hp) :=
  (gA h l0 5 2).bind fun v1 =>
  if isO h v1 0 = true then
  (fX0_hasRing N h v1 l1).bind fun v5 =>
    if v5 = 0 then
      some ((-1 : Int32), h)
    else
      (fX5_within N h l2 (1 : Int32) (9 : Int32)).bind fun v15 =>
      if v15 = 0 then
        some ((-1 : Int32), h)
      else
        (fX5_within N h l3 (0 : Int32) (1 : Int32)).bind fun v24 =>
        if v24 = 0 then
          some ((-1 : Int32), h)
        else
          if isO h l0 5 = true then
          (fX5_noteBareTeeth N h l0 l1 l2).bind fun z35 =>
            if z35.1 = 0 then
              if l3 = 0 then
                some ((0 : Int32), z35.2)
              else
                some ((-9 : Int32), z35.2)
            else
              fX5_closes_L63 N
                (fun h l3 l4 l5 =>
                  if l3 = 0 then
                    some (l4, h)
                  else
                    some (l5, h))
                N z35.2 l0 l1 l3 (-9 : Int32) (-9 : Int32) (0 : Int32)
          else none
  else none
def fX6_pointOf (N : Nat) (h : Hp) (l0 : Option Nat) (l1 : Int32) (l2 : Int32) (l3 : Int32) : Option (Int32) :=
  (gA h l0 6 3).bind fun v4 =>
  (rI h v4 0 l1).bind fun v8 =>
  if v8 = 0 then none else
  some (jrem ((((360 : Int32) / v8) * l3) + l2) (360 : Int32))
def fX6_openMany_L4 {α : Type} (N : Nat) (h : Hp) (K37 : Int32 → Option α) : Nat → Option Nat → Int32 → Int32 → Int32 → Option α
  | 0, _, _, _, _ => none
  | n + 1, l0, l1, l2, l3 =>
    (gA h l0 6 3).bind fun v6 =>
    (rI h v6 0 l1).bind fun v10 =>
    if v10 ≤ l3 then
      K37 l2
    else
      (gA h l0 6 26).bind fun v16 =>
      (rI h v16 0 l3).bind fun v20 =>
      if v20 = 0 then
        fX6_openMany_L4 N h K37 n l0 l1 (l2 + (1 : Int32)) (l3 + 1)
      else
        fX6_openMany_L4 N h K37 n l0 l1 (l2 + (0 : Int32)) (l3 + 1)
def fX6_openMany (N : Nat) (h : Hp) (l0 : Option Nat) (l1 : Int32) : Option (Int32) :=
  fX6_openMany_L4 N h
    (fun l2 =>
      some l2)
    N l0 l1 (0 : Int32) (0 : Int32)
def fX6_openRests_L18 {α : Type} (N : Nat) (h : Hp) (K60 : Option Nat → Int32 → Int32 → Int32 → Int32 → Int32 → Option α) : Nat → Option Nat → Int32 → Int32 → Int32 → Int32 → Int32 → Int32 → Option α
  | 0, _, _, _, _, _, _, _ => none
  | n + 1, l0, l1, l2, l3, l4, l5, l6 =>
    (gA h l0 6 3).bind fun v21 =>
    (rI h v21 0 l1).bind fun v25 =>
    if v25 ≤ l6 then
      K60 l0 l1 l2 l3 l4 l5
    else
      if l5 = 0 then
        (gA h l0 6 26).bind fun v35 =>
        (rI h v35 0 l6).bind fun v40 =>
        if v40 = 0 then
          fX6_openRests_L18 N h K60 n l0 l1 l2 l3 l4 (1 : Int32) (l6 + l2)
        else
          fX6_openRests_L18 N h K60 n l0 l1 l2 l3 l4 (0 : Int32) (l6 + l2)
      else
        fX6_openRests_L18 N h K60 n l0 l1 l2 l3 l4 (1 : Int32) (l6 + l2)
def fX6_openRests_L5 {α : Type} (N : Nat) (h : Hp) (K79 : Int32 → Option α) : Nat → Option Nat → Int32 → Int32 → Int32 → Int32 → Option α
  | 0, _, _, _, _, _ => none
  | n + 1, l0, l1, l2, l3, l4 =>
    if l2 ≤ l4 then
      K79 l3
    else
      fX6_openRests_L18 N h
        (fun l0 l1 l2 l3 l4 l5 =>
          if l5 = 0 then
            fX6_openRests_L5 N h K79 n l0 l1 l2 (l3 + (0 : Int32)) (l4 + 1)
          else
            fX6_openRests_L5 N h K79 n l0 l1 l2 (l3 + (1 : Int32)) (l4 + 1))
        N l0 l1 l2 l3 l4 (0 : Int32) l4
def fX6_openRests (N : Nat) (h : Hp) (l0 : Option Nat) (l1 : Int32) (l2 : Int32) : Option (Int32) :=
  fX6_openRests_L5 N h
    (fun l3 =>
      some l3)
    N l0 l1 l2 (0 : Int32) (0 : Int32)
def fX6_closes_L32 {α : Type} (N : Nat) (K82 : Hp → Option Nat → Int32 → Int32 → Option α) : Nat → Hp → Option Nat → Int32 → Int32 → Int32 → Int32 → Option α
  | 0, _, _, _, _, _, _ => none
  | n + 1, h, l0, l1, l2, l3, l4 =>
    (gA h l0 6 3).bind fun v35 =>
    (rI h v35 0 l1).bind fun v39 =>
    if v39 ≤ l4 then
      K82 h l0 l1 l3
    else
      (gA h l0 6 26).bind fun v44 =>
      (gI h l0 6 5).bind fun v53 =>
      if isO h l0 6 = true then
      (fX6_pointOf N h l0 l1 v53 l4).bind fun v58 =>
        if isO h l0 6 = true then
        (fX6_shownAt N h l0 v58 l2).bind fun v62 =>
          if v62 = (-9 : Int32) then
            (wI h v44 0 l4 (0 : Int32)).bind fun h75 =>
            fX6_closes_L32 N K82 n h75 l0 l1 l2 l3 (l4 + 1)
          else
            (wI h v44 0 l4 (1 : Int32)).bind fun h75 =>
            fX6_closes_L32 N K82 n h75 l0 l1 l2 l3 (l4 + 1)
        else none
      else none
def fX6_closes_j164 {α : Type} (N : Nat) (K112 : Hp → Option Nat → Int32 → Int32 → Int32 → Int32 → Int32 → Option α) (h : Hp) (l0 : Option Nat) (l1 : Int32) (l3 : Int32) (l5 : Int32) (l6 : Int32) (l7 : Int32) (s0 : Int32) : Option α :=
  if l5 ≤ l7 then
    K112 h l0 l1 l3 s0 l5 (l6 + 1)
  else
    K112 h l0 l1 l3 s0 l7 (l6 + 1)
def fX6_closes_j148 {α : Type} (N : Nat) (K112 : Hp → Option Nat → Int32 → Int32 → Int32 → Int32 → Int32 → Option α) (h : Hp) (l0 : Option Nat) (l1 : Int32) (l3 : Int32) (l4 : Int32) (l5 : Int32) (l6 : Int32) (s0 : Int32) : Option α :=
  if l5 ≤ s0 then
    fX6_closes_j164 N K112 h l0 l1 l3 l5 l6 s0 l4
  else
    fX6_closes_j164 N K112 h l0 l1 l3 l5 l6 s0 l6
def fX6_closes_L112 {α : Type} (N : Nat) (K188 : Hp → Int32 → Int32 → Int32 → Option α) : Nat → Hp → Option Nat → Int32 → Int32 → Int32 → Int32 → Int32 → Option α
  | 0, _, _, _, _, _, _, _ => none
  | n + 1, h, l0, l1, l3, l4, l5, l6 =>
    (gI h l0 6 1).bind fun v115 =>
    if v115 ≤ l6 then
      K188 h l3 l4 l5
    else
      if isO h l0 6 = true then
      (fX6_fits N h l0 l1 l6).bind fun v125 =>
        if v125 = 0 then
          fX6_closes_j148 N (fX6_closes_L112 N K188 n) h l0 l1 l3 l4 l5 l6 (1048576 : Int32)
        else
          if isO h l0 6 = true then
          (fX6_commonOf N h l0 l1 l6).bind fun v137 =>
            if isO h l0 6 = true then
            (fX6_openRests N h l0 l1 v137).bind fun v140 =>
              fX6_closes_j148 N (fX6_closes_L112 N K188 n) h l0 l1 l3 l4 l5 l6 v140
            else none
          else none
      else none
def fX6_closes (N : Nat) (h : Hp) (l0 : Option Nat) (l1 : Int32) (l2 : Int32) (l3 : Int32) : Option (Int32 × Hp) :=
  if isO h l0 6 = true then
  (fX6_isRing N h l0 l1).bind fun v2 =>
    if v2 = 0 then
      some ((-1 : Int32), h)
    else
      (fX6_in N h l2 (1 : Int32) (9 : Int32)).bind fun v12 =>
      if v12 = 0 then
        some ((-1 : Int32), h)
      else
        (fX6_in N h l3 (0 : Int32) (1 : Int32)).bind fun v21 =>
        if v21 = 0 then
          some ((-1 : Int32), h)
        else
          fX6_closes_L32 N
            (fun h l0 l1 l3 =>
              if isO h l0 6 = true then
              (fX6_openMany N h l0 l1).bind fun v84 =>
                if v84 = 0 then
                  if l3 = 0 then
                    some ((0 : Int32), h)
                  else
                    some ((-9 : Int32), h)
                else
                  fX6_closes_L112 N
                    (fun h l3 l4 l5 =>
                      if l4 = (-9 : Int32) then
                        some (l4, h)
                      else
                        if l3 = (1 : Int32) then
                          some (l4, h)
                        else
                          some (l5, h))
                    N h l0 l1 l3 (-9 : Int32) (1048576 : Int32) (0 : Int32)
              else none)
            N h l0 l1 l2 l3 (0 : Int32)
  else none
def fX5_addTwo_L11 {α : Type} (N : Nat) (K51 : Hp → Option α) : Nat → Hp → Option Nat → Int32 → Int32 → Int32 → Option α
  | 0, _, _, _, _, _ => none
  | n + 1, h, l0, l2, l3, l4 =>
    if l4 < l3 then
      K51 h
    else
      (gA h l0 5 9).bind fun v18 =>
      (gA h l0 5 9).bind fun v24 =>
      (rI h v24 0 l4).bind fun v29 =>
      (gA h l0 5 9).bind fun v31 =>
      (rI h v31 0 (l4 - l3)).bind fun v38 =>
      (wI h v18 0 l4 (jmax v29 (v38 + l2))).bind fun h44 =>
      fX5_addTwo_L11 N K51 n h44 l0 l2 l3 (l4 + (-1))
def fX5_addTwo (N : Nat) (h : Hp) (l0 : Option Nat) (l1 : Int32) (l2 : Int32) : Option (Hp) :=
  fX5_addTwo_L11 N
    (fun h =>
      some h)
    N h l0 l2 (jmax l1 (0 : Int32)) (999 : Int32)
def fX5_noteMostPetals_L23 {α : Type} (N : Nat) (K74 : Hp → Option Nat → Int32 → Option α) : Nat → Hp → Option Nat → Int32 → Int32 → Option α
  | 0, _, _, _, _ => none
  | n + 1, h, l0, l1, l2 =>
    (gA h l0 5 2).bind fun v25 =>
    (gI h v25 0 4).bind fun v28 =>
    if v28 ≤ l2 then
      K74 h l0 l1
    else
      (gA h l0 5 2).bind fun v35 =>
      if isO h v35 0 = true then
      (fX0_fits N h v35 l1 l2).bind fun v40 =>
        if v40 = 0 then
          fX5_noteMostPetals_L23 N K74 n h l0 l1 (l2 + 1)
        else
          (gA h l0 5 2).bind fun v48 =>
          if isO h v48 0 = true then
          (fX0_longOf N h v48 l1 l2).bind fun v53 =>
            (gA h l0 5 2).bind fun v57 =>
            if isO h v57 0 = true then
            (fX0_petalsOf N h v57 l1 l2).bind fun v62 =>
              if isO h l0 5 = true then
              (fX5_addTwo N h l0 v53 v62).bind fun z65 =>
                fX5_noteMostPetals_L23 N K74 n z65 l0 l1 (l2 + 1)
              else none
            else none
          else none
      else none
def fX5_noteMostPetals_L10 {α : Type} (N : Nat) (K80 : Hp → Option Nat → Option α) : Nat → Hp → Option Nat → Int32 → Option α
  | 0, _, _, _ => none
  | n + 1, h, l0, l1 =>
    (gA h l0 5 2).bind fun v12 =>
    (gI h v12 0 3).bind fun v15 =>
    if v15 ≤ l1 then
      K80 h l0
    else
      fX5_noteMostPetals_L23 N
        (fun h l0 l1 =>
          fX5_noteMostPetals_L10 N K80 n h l0 (l1 + 1))
        N h l0 l1 (0 : Int32)
def fX5_noteMostPetals (N : Nat) (h : Hp) (l0 : Option Nat) : Option (Hp) :=
  (gA h l0 5 9).bind fun v1 =>
  (fJ7_fill_53178 N h v1 (0 : Int32)).bind fun z5 =>
  fX5_noteMostPetals_L10 N
    (fun h l0 =>
      (pV h l0 5 10 (.int (1 : Int32))).bind fun h82 =>
      some h82)
    N z5 l0 (0 : Int32)
def fX5_best_L70 {α : Type} (N : Nat) (K94 : Hp → Int32 → Option α) : Nat → Hp → Option Nat → Int32 → Int32 → Int32 → Option α
  | 0, _, _, _, _, _ => none
  | n + 1, h, l0, l3, l4, l5 =>
    if l3 ≤ l5 then
      K94 h l5
    else
      (gA h l0 5 9).bind fun v77 =>
      (rI h v77 0 l5).bind fun v82 =>
      if l4 ≤ v82 then
        K94 h l5
      else
        fX5_best_L70 N K94 n h l0 l3 l4 (l5 + 1)
def fX5_best_j33 (N : Nat) (h : Hp) (l0 : Option Nat) (l1 : Int32) (l2 : Int32) : Option (Int32 × Hp) :=
  (gA h l0 5 3).bind fun v34 =>
  if isO h v34 2 = true then
  (fX2_inkOf N h v34 l1).bind fun v38 =>
    (gA h l0 5 9).bind fun v53 =>
    (rI h v53 0 (jmin (jmax v38 (0 : Int32)) (999 : Int32))).bind fun v57 =>
    if l2 = 0 then
      some (v57, h)
    else
      fX5_best_L70 N
        (fun h l5 =>
          some (l5, h))
        N h l0 (jmin (jmax v38 (0 : Int32)) (999 : Int32)) v57 (0 : Int32)
  else none
def fX5_best (N : Nat) (h : Hp) (l0 : Option Nat) (l1 : Int32) (l2 : Int32) : Option (Int32 × Hp) :=
  (gA h l0 5 2).bind fun v1 =>
  if isO h v1 0 = true then
  (fX0_hasPen N h v1 l1).bind fun v5 =>
    if v5 = 0 then
      some ((-1 : Int32), h)
    else
      (fX5_within N h l2 (0 : Int32) (1 : Int32)).bind fun v14 =>
      if v14 = 0 then
        some ((-1 : Int32), h)
      else
        (gI h l0 5 10).bind fun v23 =>
        if v23 = 0 then
          if isO h l0 5 = true then
          (fX5_noteMostPetals N h l0).bind fun z30 =>
            fX5_best_j33 N z30 l0 l1 l2
          else none
        else
          fX5_best_j33 N h l0 l1 l2
  else none
def fX6_comesTwo_L3 {α : Type} (N : Nat) (K56 : Hp → Option α) : Nat → Hp → Option Nat → Int32 → Int32 → Int32 → Option α
  | 0, _, _, _, _, _ => none
  | n + 1, h, l0, l1, l2, l4 =>
    if l4 < l2 then
      K56 h
    else
      (gA h l0 6 27).bind fun v10 =>
      (rI h v10 0 (l4 - l2)).bind fun v17 =>
      if v17 < 0 then
        fX6_comesTwo_L3 N K56 n h l0 l1 l2 (l4 + (-1))
      else
        (gA h l0 6 27).bind fun v30 =>
        (rI h v30 0 l4).bind fun v35 =>
        if (v17 + l1) ≤ v35 then
          fX6_comesTwo_L3 N K56 n h l0 l1 l2 (l4 + (-1))
        else
          (gA h l0 6 27).bind fun v40 =>
          (wI h v40 0 l4 (v17 + l1)).bind fun h49 =>
          fX6_comesTwo_L3 N K56 n h49 l0 l1 l2 (l4 + (-1))
def fX6_comesTwo (N : Nat) (h : Hp) (l0 : Option Nat) (l1 : Int32) (l2 : Int32) (l3 : Int32) : Option (Hp) :=
  fX6_comesTwo_L3 N
    (fun h =>
      some h)
    N h l0 l1 l2 l3
def fX6_best_L28 {α : Type} (N : Nat) (K48 : Hp → Option Nat → Int32 → Int32 → Option α) : Nat → Hp → Option Nat → Int32 → Int32 → Int32 → Option α
  | 0, _, _, _, _, _ => none
  | n + 1, h, l0, l1, l2, l3 =>
    if (999 : Int32) < l3 then
      K48 h l0 l1 l2
    else
      (gA h l0 6 27).bind fun v36 =>
      (wI h v36 0 l3 (-1 : Int32)).bind fun h41 =>
      fX6_best_L28 N K48 n h41 l0 l1 l2 (l3 + 1)
def fX6_best_L61 {α : Type} (N : Nat) (K110 : Hp → Option Nat → Int32 → Int32 → Int32 → Option α) : Nat → Hp → Option Nat → Int32 → Int32 → Int32 → Int32 → Option α
  | 0, _, _, _, _, _, _ => none
  | n + 1, h, l0, l1, l2, l3, l4 =>
    (gI h l0 6 1).bind fun v64 =>
    if v64 ≤ l4 then
      K110 h l0 l1 l2 l3
    else
      if isO h l0 6 = true then
      (fX6_fits N h l0 l3 l4).bind fun v74 =>
        if v74 = 0 then
          fX6_best_L61 N K110 n h l0 l1 l2 l3 (l4 + 1)
        else
          if isO h l0 6 = true then
          (fX6_petalsOf N h l0 l3 l4).bind fun v85 =>
            if isO h l0 6 = true then
            (fX6_longOf N h l0 l3 l4).bind fun v92 =>
              (gA h l0 6 7).bind fun v96 =>
              (rI h v96 0 l1).bind fun v100 =>
              if isO h l0 6 = true then
              (fX6_comesTwo N h l0 v85 v92 v100).bind fun z101 =>
                fX6_best_L61 N K110 n z101 l0 l1 l2 l3 (l4 + 1)
              else none
            else none
          else none
      else none
def fX6_best_L50 {α : Type} (N : Nat) (K116 : Hp → Option Nat → Int32 → Int32 → Option α) : Nat → Hp → Option Nat → Int32 → Int32 → Int32 → Option α
  | 0, _, _, _, _, _ => none
  | n + 1, h, l0, l1, l2, l3 =>
    (gI h l0 6 0).bind fun v52 =>
    if v52 ≤ l3 then
      K116 h l0 l1 l2
    else
      fX6_best_L61 N
        (fun h l0 l1 l2 l3 =>
          fX6_best_L50 N K116 n h l0 l1 l2 (l3 + 1))
        N h l0 l1 l2 l3 (0 : Int32)
def fX6_best_L121 {α : Type} (N : Nat) (K161 : Hp → Option Nat → Int32 → Int32 → Option α) : Nat → Hp → Option Nat → Int32 → Int32 → Int32 → Int32 → Option α
  | 0, _, _, _, _, _, _ => none
  | n + 1, h, l0, l1, l2, l3, l4 =>
    (gA h l0 6 7).bind fun v124 =>
    (rI h v124 0 l1).bind fun v128 =>
    if v128 < l4 then
      K161 h l0 l2 l3
    else
      (gA h l0 6 27).bind fun v133 =>
      (rI h v133 0 l4).bind fun v138 =>
      (gA h l0 6 27).bind fun v140 =>
      (rI h v140 0 l3).bind fun v144 =>
      if v138 ≤ v144 then
        fX6_best_L121 N K161 n h l0 l1 l2 l3 (l4 + 1)
      else
        fX6_best_L121 N K161 n h l0 l1 l2 l4 (l4 + 1)
def fX6_best (N : Nat) (h : Hp) (l0 : Option Nat) (l1 : Int32) (l2 : Int32) : Option (Int32 × Hp) :=
  if isO h l0 6 = true then
  (fX6_isPen N h l0 l1).bind fun v2 =>
    if v2 = 0 then
      some ((-1 : Int32), h)
    else
      (fX6_in N h l2 (0 : Int32) (1 : Int32)).bind fun v11 =>
      if v11 = 0 then
        some ((-1 : Int32), h)
      else
        (gA h l0 6 27).bind fun v20 =>
        (wI h v20 0 (0 : Int32) (0 : Int32)).bind fun h25 =>
        fX6_best_L28 N
          (fun h l0 l1 l2 =>
            fX6_best_L50 N
              (fun h l0 l1 l2 =>
                fX6_best_L121 N
                  (fun h l0 l2 l3 =>
                    if l2 = 0 then
                      (gA h l0 6 27).bind fun v166 =>
                      (rI h v166 0 l3).bind fun v170 =>
                      some (v170, h)
                    else
                      some (l3, h))
                  N h l0 l1 l2 (0 : Int32) (1 : Int32))
              N h l0 l1 l2 (0 : Int32))
          N h25 l0 l1 l2 (1 : Int32)
  else none
def fX5_meet_L41 {α : Type} (N : Nat) (h : Hp) (K77 : Int32 → Option α) : Nat → Option Nat → Option Nat → Int32 → Int32 → Option α
  | 0, _, _, _, _ => none
  | n + 1, l3, l4, l5, l6 =>
    (gI h l3 1 6).bind fun v44 =>
    if v44 ≤ l6 then
      K77 l5
    else
      if isO h l3 1 = true then
      (fX1_pointOf N h l3 l6).bind fun v55 =>
        (gI h l3 1 2).bind fun v59 =>
        if isO h l4 1 = true then
        (fX1_hasTip N h l4 v55 v59).bind fun v62 =>
          if v62 = 0 then
            fX5_meet_L41 N h K77 n l3 l4 l5 (l6 + 1)
          else
            fX5_meet_L41 N h K77 n l3 l4 (l5 + 1) (l6 + 1)
        else none
      else none
def fX5_meet (N : Nat) (h : Hp) (l0 : Option Nat) (l1 : Int32) (l2 : Int32) : Option (Int32) :=
  (gA h l0 5 3).bind fun v1 =>
  if isO h v1 2 = true then
  (fX2_curveAt N h v1 l1).bind fun v5 =>
    (gA h l0 5 3).bind fun v10 =>
    if isO h v10 2 = true then
    (fX2_curveAt N h v10 l2).bind fun v14 =>
      if v5 = none then
        some (-1 : Int32)
      else
        if v14 = none then
          some (-1 : Int32)
        else
          if l1 = l2 then
            some (-1 : Int32)
          else
            fX5_meet_L41 N h
              (fun l5 =>
                some l5)
              N v5 v14 (0 : Int32) (0 : Int32)
    else none
  else none
def fX6_meet_L41 {α : Type} (N : Nat) (h : Hp) (K87 : Int32 → Option α) : Nat → Option Nat → Int32 → Int32 → Int32 → Int32 → Int32 → Option α
  | 0, _, _, _, _, _, _ => none
  | n + 1, l0, l1, l2, l3, l4, l5 =>
    if (360 : Int32) ≤ l5 then
      K87 l4
    else
      if isO h l0 6 = true then
      (fX6_hasTip N h l0 l1 l5 l3).bind fun v56 =>
        if v56 = 0 then
          fX6_meet_L41 N h K87 n l0 l1 l2 l3 (l4 + (0 : Int32)) (l5 + 1)
        else
          if isO h l0 6 = true then
          (fX6_hasTip N h l0 l2 l5 l3).bind fun v67 =>
            if v67 = 0 then
              fX6_meet_L41 N h K87 n l0 l1 l2 l3 (l4 + (0 : Int32)) (l5 + 1)
            else
              fX6_meet_L41 N h K87 n l0 l1 l2 l3 (l4 + (1 : Int32)) (l5 + 1)
          else none
      else none
def fX6_meet (N : Nat) (h : Hp) (l0 : Option Nat) (l1 : Int32) (l2 : Int32) : Option (Int32) :=
  if isO h l0 6 = true then
  (fX6_isCurve N h l0 l1).bind fun v2 =>
    if v2 = 0 then
      some (-1 : Int32)
    else
      if isO h l0 6 = true then
      (fX6_isCurve N h l0 l2).bind fun v10 =>
        if v10 = 0 then
          some (-1 : Int32)
        else
          if l1 = l2 then
            some (-1 : Int32)
          else
            (gA h l0 6 8).bind fun v24 =>
            (rI h v24 0 (((6 : Int32) * l1) + (2 : Int32))).bind fun v33 =>
            fX6_meet_L41 N h
              (fun l4 =>
                some l4)
              N l0 l1 l2 v33 (0 : Int32) (0 : Int32)
      else none
  else none
def fX5_odds_j90 (N : Nat) (h : Hp) (l0 : Option Nat) (l1 : Int32) (l2 : Int32) (l4 : Int32) (s0 : Int32) : Option (Int32) :=
  if l4 = 0 then
    if s0 = 0 then
      some (0 : Int32)
    else
      some (1 : Int32)
  else
    if s0 = 0 then
      some (1 : Int32)
    else
      (gA h l0 5 2).bind fun v114 =>
      if isO h v114 0 = true then
      (fX0_divisorOf N h v114 l1 l2).bind fun v119 =>
        some v119
      else none
def fX5_odds (N : Nat) (h : Hp) (l0 : Option Nat) (l1 : Int32) (l2 : Int32) (l3 : Int32) (l4 : Int32) : Option (Int32) :=
  (gA h l0 5 2).bind fun v1 =>
  if isO h v1 0 = true then
  (fX0_hasRing N h v1 l1).bind fun v5 =>
    if v5 = 0 then
      some (-1 : Int32)
    else
      (gA h l0 5 2).bind fun v12 =>
      if isO h v12 0 = true then
      (fX0_hasWheel N h v12 l2).bind fun v16 =>
        if v16 = 0 then
          some (-1 : Int32)
        else
          (fX5_within N h l3 (0 : Int32) (359 : Int32)).bind fun v29 =>
          if v29 = 0 then
            some (-1 : Int32)
          else
            (fX5_within N h l4 (0 : Int32) (1 : Int32)).bind fun v39 =>
            if v39 = 0 then
              some (-1 : Int32)
            else
              (gA h l0 5 2).bind fun v48 =>
              if isO h v48 0 = true then
              (fX0_fits N h v48 l1 l2).bind fun v53 =>
                if v53 = 0 then
                  some (-2 : Int32)
                else
                  (gA h l0 5 3).bind fun v64 =>
                  (gI h v64 2 0).bind fun v67 =>
                  (gA h l0 5 2).bind fun v72 =>
                  if isO h v72 0 = true then
                  (fX0_stepOf N h v72 l1).bind fun v76 =>
                    (fX5_rest N h (l3 - v67) v76).bind fun v79 =>
                    if v79 = 0 then
                      fX5_odds_j90 N h l0 l1 l2 l4 (1 : Int32)
                    else
                      fX5_odds_j90 N h l0 l1 l2 l4 (0 : Int32)
                  else none
              else none
      else none
  else none
def fX6_odds_j71 (N : Nat) (h : Hp) (l0 : Option Nat) (l1 : Int32) (l2 : Int32) (l4 : Int32) (s0 : Int32) : Option (Int32) :=
  if l4 = 0 then
    if s0 = 0 then
      some (0 : Int32)
    else
      some (1 : Int32)
  else
    if s0 = 0 then
      some (1 : Int32)
    else
      if isO h l0 6 = true then
      (fX6_commonOf N h l0 l1 l2).bind fun v99 =>
        some v99
      else none
def fX6_odds (N : Nat) (h : Hp) (l0 : Option Nat) (l1 : Int32) (l2 : Int32) (l3 : Int32) (l4 : Int32) : Option (Int32) :=
  if isO h l0 6 = true then
  (fX6_isRing N h l0 l1).bind fun v2 =>
    if v2 = 0 then
      some (-1 : Int32)
    else
      if isO h l0 6 = true then
      (fX6_isWheel N h l0 l2).bind fun v10 =>
        if v10 = 0 then
          some (-1 : Int32)
        else
          (fX6_in N h l3 (0 : Int32) (359 : Int32)).bind fun v21 =>
          if v21 = 0 then
            some (-1 : Int32)
          else
            (fX6_in N h l4 (0 : Int32) (1 : Int32)).bind fun v31 =>
            if v31 = 0 then
              some (-1 : Int32)
            else
              if isO h l0 6 = true then
              (fX6_fits N h l0 l1 l2).bind fun v42 =>
                if v42 = 0 then
                  some (-2 : Int32)
                else
                  (gI h l0 6 5).bind fun v54 =>
                  if isO h l0 6 = true then
                  (fX6_toothAt N h l0 l1 v54 l3).bind fun v58 =>
                    if v58 = (-9 : Int32) then
                      fX6_odds_j71 N h l0 l1 l2 l4 (0 : Int32)
                    else
                      fX6_odds_j71 N h l0 l1 l2 l4 (1 : Int32)
                  else none
              else none
      else none
  else none
def fX3_adds (N : Nat) (h : Hp) (l0 : Option Nat) (l1 : Int32) (l2 : Int32) : Option (Int32 × Hp) :=
  (gI h l0 3 2).bind fun v1 =>
  if v1 < (6 : Int32) then
    (gA h l0 3 0).bind fun v12 =>
    (gI h l0 3 2).bind fun v16 =>
    (wI h v12 0 v16 l1).bind fun h20 =>
    (gA h20 l0 3 1).bind fun v22 =>
    (gI h20 l0 3 2).bind fun v26 =>
    (wI h20 v22 1 v26 (vp_nar .boolean l2)).bind fun h30 =>
    (gI h30 l0 3 2).bind fun v33 =>
    (pV h30 l0 3 2 (.int (v33 + (1 : Int32)))).bind fun h38 =>
    some ((1 : Int32), h38)
  else
    some ((0 : Int32), h)
def fX5_sees_j36 (N : Nat) (h : Hp) (l0 : Option Nat) (s0 : Int32) (s1 : Int32) (s2 : Option Nat) : Option (Int32 × Hp) :=
  if isO h s2 3 = true then
  (fX3_adds N h s2 s1 s0).bind fun z36 =>
    if z36.1 = 0 then
      some ((-3 : Int32), z36.2)
    else
      (gA z36.2 l0 5 1).bind fun v43 =>
      (gI z36.2 v43 3 2).bind fun v46 =>
      some (v46, z36.2)
  else none
def fX5_sees (N : Nat) (h : Hp) (l0 : Option Nat) (l1 : Int32) (l2 : Int32) : Option (Int32 × Hp) :=
  (fX5_within N h l1 (0 : Int32) (119 : Int32)).bind fun v4 =>
  if v4 = 0 then
    some ((-1 : Int32), h)
  else
    (fX5_within N h l2 (0 : Int32) (1 : Int32)).bind fun v13 =>
    if v13 = 0 then
      some ((-1 : Int32), h)
    else
      (gA h l0 5 1).bind fun v22 =>
      if l2 = (1 : Int32) then
        fX5_sees_j36 N h l0 (1 : Int32) l1 v22
      else
        fX5_sees_j36 N h l0 (0 : Int32) l1 v22
def fX6_sees (N : Nat) (h : Hp) (l0 : Option Nat) (l1 : Int32) (l2 : Int32) : Option (Int32 × Hp) :=
  (fX6_in N h l1 (0 : Int32) (119 : Int32)).bind fun v4 =>
  if v4 = 0 then
    some ((-1 : Int32), h)
  else
    (fX6_in N h l2 (0 : Int32) (1 : Int32)).bind fun v13 =>
    if v13 = 0 then
      some ((-1 : Int32), h)
    else
      (gI h l0 6 9).bind fun v22 =>
      if v22 = (6 : Int32) then
        some ((-3 : Int32), h)
      else
        (gA h l0 6 10).bind fun v34 =>
        (gI h l0 6 9).bind fun v38 =>
        (wI h v34 0 v38 l1).bind fun h42 =>
        (gA h42 l0 6 11).bind fun v44 =>
        (gI h42 l0 6 9).bind fun v48 =>
        (wI h42 v44 0 v48 l2).bind fun h52 =>
        (gI h52 l0 6 9).bind fun v55 =>
        (pV h52 l0 6 9 (.int (v55 + (1 : Int32)))).bind fun h60 =>
        (gI h60 l0 6 9).bind fun v64 =>
        some (v64, h60)
def fX5_forget (N : Nat) (h : Hp) (l0 : Option Nat) : Option (Int32 × Hp) :=
  (gA h l0 5 1).bind fun v1 =>
  if isO h v1 3 = true then
  (fX3_empties N h v1).bind fun z4 =>
    some (z4.1, z4.2)
  else none
def fX6_forget (N : Nat) (h : Hp) (l0 : Option Nat) : Option (Int32 × Hp) :=
  (gI h l0 6 9).bind fun v1 =>
  (pV h l0 6 9 (.int (0 : Int32))).bind fun h7 =>
  some (v1, h7)
def fX3_agree_j44 {α : Type} (N : Nat) (h : Hp) (K3 : Option Nat → Int32 → Int32 → Int32 → Int32 → Option α) (K58 : Option α) (l0 : Option Nat) (l1 : Int32) (l2 : Int32) (l3 : Int32) (l4 : Int32) (s0 : Int32) : Option α :=
  (gA h l0 3 1).bind fun v49 =>
  (rI h v49 1 l4).bind fun v54 =>
  if s0 = v54 then
    K3 l0 l1 l2 l3 (l4 + 1)
  else
    K58
def fX3_agree_L3 {α : Type} (N : Nat) (h : Hp) (K58 : Option α) (K66 : Option α) : Nat → Option Nat → Int32 → Int32 → Int32 → Int32 → Option α
  | 0, _, _, _, _, _ => none
  | n + 1, l0, l1, l2, l3, l4 =>
    (gI h l0 3 2).bind fun v6 =>
    if v6 ≤ l4 then
      K66
    else
      (gA h l0 3 0).bind fun v13 =>
      (rI h v13 0 l4).bind fun v18 =>
      if l1 ≤ v18 then
        fX3_agree_j44 N h (fX3_agree_L3 N h K58 K66 n) K58 l0 l1 l2 l3 l4 (0 : Int32)
      else
        (gA h l0 3 0).bind fun v24 =>
        (rI h v24 0 l4).bind fun v29 =>
        (fX5_rest N h (v29 - l3) l2).bind fun v33 =>
        if v33 = 0 then
          fX3_agree_j44 N h (fX3_agree_L3 N h K58 K66 n) K58 l0 l1 l2 l3 l4 (1 : Int32)
        else
          fX3_agree_j44 N h (fX3_agree_L3 N h K58 K66 n) K58 l0 l1 l2 l3 l4 (0 : Int32)
def fX3_agree (N : Nat) (h : Hp) (l0 : Option Nat) (l1 : Int32) (l2 : Int32) (l3 : Int32) : Option (Int32) :=
  fX3_agree_L3 N h
    (
      some (0 : Int32))
    (
      some (1 : Int32))
    N l0 l1 l2 l3 (0 : Int32)
def fX3_startsAgreeing_L5 {α : Type} (N : Nat) (h : Hp) (K31 : Int32 → Option α) : Nat → Option Nat → Int32 → Int32 → Int32 → Int32 → Option α
  | 0, _, _, _, _, _ => none
  | n + 1, l0, l1, l2, l3, l4 =>
    if l2 ≤ l4 then
      K31 l3
    else
      if isO h l0 3 = true then
      (fX3_agree N h l0 l1 l2 l4).bind fun v16 =>
        if v16 = 0 then
          fX3_startsAgreeing_L5 N h K31 n l0 l1 l2 l3 (l4 + 1)
        else
          fX3_startsAgreeing_L5 N h K31 n l0 l1 l2 (l3 + 1) (l4 + 1)
      else none
def fX3_startsAgreeing (N : Nat) (h : Hp) (l0 : Option Nat) (l1 : Int32) (l2 : Int32) : Option (Int32) :=
  fX3_startsAgreeing_L5 N h
    (fun l3 =>
      some l3)
    N l0 l1 l2 (0 : Int32) (0 : Int32)
def fX5_guesses_L14 {α : Type} (N : Nat) (h : Hp) (K81 : Int32 → Option α) : Nat → Option Nat → Int32 → Int32 → Int32 → Int32 → Option α
  | 0, _, _, _, _, _ => none
  | n + 1, l0, l1, l2, l3, l4 =>
    (gA h l0 5 2).bind fun v17 =>
    (gI h v17 0 4).bind fun v20 =>
    if v20 ≤ l4 then
      K81 l3
    else
      (gA h l0 5 2).bind fun v27 =>
      if isO h v27 0 = true then
      (fX0_fits N h v27 l1 l4).bind fun v33 =>
        if v33 = 0 then
          fX5_guesses_L14 N h K81 n l0 l1 l2 l3 (l4 + 1)
        else
          (gA h l0 5 2).bind fun v40 =>
          if isO h v40 0 = true then
          (fX0_divisorOf N h v40 l1 l4).bind fun v46 =>
            (gA h l0 5 2).bind fun v53 =>
            if isO h v53 0 = true then
            (fX0_petalsOf N h v53 l1 l4).bind fun v59 =>
              (gA h l0 5 1).bind fun v63 =>
              if isO h v63 3 = true then
              (fX3_startsAgreeing N h v63 l2 v46).bind fun v69 =>
                fX5_guesses_L14 N h K81 n l0 l1 l2 (l3 + (v59 * v69)) (l4 + 1)
              else none
            else none
          else none
      else none
def fX5_guesses (N : Nat) (h : Hp) (l0 : Option Nat) (l1 : Int32) : Option (Int32) :=
  (gA h l0 5 2).bind fun v1 =>
  if isO h v1 0 = true then
  (fX0_teethOf N h v1 l1).bind fun v5 =>
    fX5_guesses_L14 N h
      (fun l3 =>
        some l3)
      N l0 l1 v5 (0 : Int32) (0 : Int32)
  else none
def fX3_firstAgreeing_L2 {α : Type} (N : Nat) (h : Hp) (K17 : Int32 → Option α) (K25 : Option α) : Nat → Option Nat → Int32 → Int32 → Int32 → Option α
  | 0, _, _, _, _ => none
  | n + 1, l0, l1, l2, l3 =>
    if l2 ≤ l3 then
      K25
    else
      if isO h l0 3 = true then
      (fX3_agree N h l0 l1 l2 l3).bind fun v11 =>
        if v11 = 0 then
          fX3_firstAgreeing_L2 N h K17 K25 n l0 l1 l2 (l3 + 1)
        else
          K17 l3
      else none
def fX3_firstAgreeing (N : Nat) (h : Hp) (l0 : Option Nat) (l1 : Int32) (l2 : Int32) : Option (Int32) :=
  fX3_firstAgreeing_L2 N h
    (fun l3 =>
      some l3)
    (
      some (-9 : Int32))
    N l0 l1 l2 (0 : Int32)
def fX5_firstGuess_L11 {α : Type} (N : Nat) (h : Hp) (K60 : Int32 → Int32 → Option α) (K75 : Option α) : Nat → Option Nat → Int32 → Int32 → Int32 → Option α
  | 0, _, _, _, _ => none
  | n + 1, l0, l1, l2, l3 =>
    (gA h l0 5 2).bind fun v13 =>
    (gI h v13 0 4).bind fun v16 =>
    if v16 ≤ l3 then
      K75
    else
      (gA h l0 5 2).bind fun v23 =>
      if isO h v23 0 = true then
      (fX0_fits N h v23 l1 l3).bind fun v28 =>
        if v28 = 0 then
          fX5_firstGuess_L11 N h K60 K75 n l0 l1 l2 (l3 + 1)
        else
          (gA h l0 5 1).bind fun v35 =>
          (gA h l0 5 2).bind fun v40 =>
          if isO h v40 0 = true then
          (fX0_divisorOf N h v40 l1 l3).bind fun v45 =>
            if isO h v35 3 = true then
            (fX3_firstAgreeing N h v35 l2 v45).bind fun v48 =>
              if v48 = (-9 : Int32) then
                fX5_firstGuess_L11 N h K60 K75 n l0 l1 l2 (l3 + 1)
              else
                K60 l3 v48
            else none
          else none
      else none
def fX5_firstGuess (N : Nat) (h : Hp) (l0 : Option Nat) (l1 : Int32) : Option (Int32) :=
  (gA h l0 5 2).bind fun v1 =>
  if isO h v1 0 = true then
  (fX0_teethOf N h v1 l1).bind fun v5 =>
    fX5_firstGuess_L11 N h
      (fun l3 l4 =>
        some (((1000 : Int32) * l3) + l4))
      (
        some (-9 : Int32))
      N l0 l1 v5 (0 : Int32)
  else none
def fX5_guess (N : Nat) (h : Hp) (l0 : Option Nat) (l1 : Int32) (l2 : Int32) : Option (Int32) :=
  (gA h l0 5 2).bind fun v1 =>
  if isO h v1 0 = true then
  (fX0_hasRing N h v1 l1).bind fun v5 =>
    if v5 = 0 then
      some (-1 : Int32)
    else
      (fX5_within N h l2 (0 : Int32) (1 : Int32)).bind fun v14 =>
      if v14 = 0 then
        some (-1 : Int32)
      else
        if l2 = 0 then
          if isO h l0 5 = true then
          (fX5_guesses N h l0 l1).bind fun v28 =>
            some v28
          else none
        else
          if isO h l0 5 = true then
          (fX5_firstGuess N h l0 l1).bind fun v36 =>
            some v36
          else none
  else none
def fX6_isSo_j81 {α : Type} (N : Nat) (h : Hp) (K6 : Option Nat → Int32 → Int32 → Int32 → Int32 → Int32 → Option α) (l0 : Option Nat) (l1 : Int32) (l2 : Int32) (l3 : Int32) (l5 : Int32) (s0 : Int32) (s1 : Int32) : Option α :=
  if s1 = s0 then
    K6 l0 l1 l2 l3 (1 : Int32) (l5 + 1)
  else
    K6 l0 l1 l2 l3 (0 : Int32) (l5 + 1)
def fX6_isSo_j56 {α : Type} (N : Nat) (h : Hp) (K6 : Option Nat → Int32 → Int32 → Int32 → Int32 → Int32 → Option α) (l0 : Option Nat) (l1 : Int32) (l2 : Int32) (l3 : Int32) (l4 : Int32) (l5 : Int32) (s0 : Int32) : Option α :=
  if l4 = 0 then
    K6 l0 l1 l2 l3 (0 : Int32) (l5 + 1)
  else
    (gA h l0 6 11).bind fun v66 =>
    (rI h v66 0 l5).bind fun v71 =>
    if v71 = (1 : Int32) then
      fX6_isSo_j81 N h K6 l0 l1 l2 l3 l5 (1 : Int32) s0
    else
      fX6_isSo_j81 N h K6 l0 l1 l2 l3 l5 (0 : Int32) s0
def fX6_isSo_L6 {α : Type} (N : Nat) (h : Hp) (K97 : Int32 → Option α) : Nat → Option Nat → Int32 → Int32 → Int32 → Int32 → Int32 → Option α
  | 0, _, _, _, _, _, _ => none
  | n + 1, l0, l1, l2, l3, l4, l5 =>
    (gI h l0 6 9).bind fun v9 =>
    if v9 ≤ l5 then
      K97 l4
    else
      (gA h l0 6 10).bind fun v16 =>
      (rI h v16 0 l5).bind fun v21 =>
      (gA h l0 6 3).bind fun v23 =>
      (rI h v23 0 l1).bind fun v27 =>
      if v27 ≤ v21 then
        fX6_isSo_j56 N h (fX6_isSo_L6 N h K97 n) l0 l1 l2 l3 l4 l5 (0 : Int32)
      else
        if isO h l0 6 = true then
        (fX6_commonOf N h l0 l1 l2).bind fun v34 =>
          (gA h l0 6 10).bind fun v38 =>
          (rI h v38 0 l5).bind fun v43 =>
          (fX6_isTip N h v34 v43 l3).bind fun v45 =>
          if v45 = 0 then
            fX6_isSo_j56 N h (fX6_isSo_L6 N h K97 n) l0 l1 l2 l3 l4 l5 (0 : Int32)
          else
            fX6_isSo_j56 N h (fX6_isSo_L6 N h K97 n) l0 l1 l2 l3 l4 l5 (1 : Int32)
        else none
def fX6_isSo (N : Nat) (h : Hp) (l0 : Option Nat) (l1 : Int32) (l2 : Int32) (l3 : Int32) : Option (Int32) :=
  fX6_isSo_L6 N h
    (fun l4 =>
      if l4 = 0 ∨ l4 = 1 then some l4 else none)
    N l0 l1 l2 l3 (1 : Int32) (0 : Int32)
def fX6_guess_L48 {α : Type} (N : Nat) (h : Hp) (K95 : Option Nat → Int32 → Int32 → Int32 → Int32 → Int32 → Option α) : Nat → Option Nat → Int32 → Int32 → Int32 → Int32 → Int32 → Int32 → Option α
  | 0, _, _, _, _, _, _, _ => none
  | n + 1, l0, l1, l2, l3, l4, l5, l6 =>
    if l6 < 0 then
      K95 l0 l1 l2 l3 l4 l5
    else
      if isO h l0 6 = true then
      (fX6_fits N h l0 l1 l5).bind fun v57 =>
        if v57 = 0 then
          fX6_guess_L48 N h K95 n l0 l1 l2 l3 l4 l5 (l6 + (-1))
        else
          if isO h l0 6 = true then
          (fX6_isSo N h l0 l1 l5 l6).bind fun v69 =>
            if v69 = 0 then
              fX6_guess_L48 N h K95 n l0 l1 l2 l3 l4 l5 (l6 + (-1))
            else
              fX6_guess_L48 N h K95 n l0 l1 l2 (l3 + 1) (((1000 : Int32) * l5) + l6) l5 (l6 + (-1))
          else none
      else none
def fX6_guess_L33 {α : Type} (N : Nat) (h : Hp) (K101 : Int32 → Int32 → Int32 → Option α) : Nat → Option Nat → Int32 → Int32 → Int32 → Int32 → Int32 → Option α
  | 0, _, _, _, _, _, _ => none
  | n + 1, l0, l1, l2, l3, l4, l5 =>
    if l5 < 0 then
      K101 l2 l3 l4
    else
      (gA h l0 6 3).bind fun v39 =>
      (rI h v39 0 l1).bind fun v43 =>
      fX6_guess_L48 N h
        (fun l0 l1 l2 l3 l4 l5 =>
          fX6_guess_L33 N h K101 n l0 l1 l2 l3 l4 (l5 + (-1)))
        N l0 l1 l2 l3 l4 l5 (v43 - (1 : Int32))
def fX6_guess (N : Nat) (h : Hp) (l0 : Option Nat) (l1 : Int32) (l2 : Int32) : Option (Int32) :=
  if isO h l0 6 = true then
  (fX6_isRing N h l0 l1).bind fun v2 =>
    if v2 = 0 then
      some (-1 : Int32)
    else
      (fX6_in N h l2 (0 : Int32) (1 : Int32)).bind fun v11 =>
      if v11 = 0 then
        some (-1 : Int32)
      else
        (gI h l0 6 1).bind fun v26 =>
        fX6_guess_L33 N h
          (fun l2 l3 l4 =>
            if l2 = 0 then
              some l3
            else
              some l4)
          N l0 l1 l2 (0 : Int32) (-9 : Int32) (v26 - (1 : Int32))
  else none
def fX5_addGuesses_L34 {α : Type} (N : Nat) (K71 : Hp → Option Nat → Int32 → Int32 → Int32 → Int32 → Int32 → Option α) : Nat → Hp → Option Nat → Int32 → Int32 → Int32 → Int32 → Int32 → Int32 → Option α
  | 0, _, _, _, _, _, _, _, _ => none
  | n + 1, h, l0, l1, l2, l3, l4, l5, l6 =>
    if l1 ≤ l6 then
      K71 h l0 l1 l2 l3 l4 l5
    else
      (gA h l0 5 8).bind fun v43 =>
      (aL h v43).bind fun v46 =>
      if v46 ≤ l6 then
        K71 h l0 l1 l2 l3 l4 l5
      else
        (gA h l0 5 8).bind fun v51 =>
        (rI h v51 0 l6).bind fun v57 =>
        (wI h v51 0 l6 (v57 + l3)).bind fun h60 =>
        fX5_addGuesses_L34 N K71 n h60 l0 l1 l2 l3 l4 l5 (l6 + l4)
def fX5_addGuesses_L10 {α : Type} (N : Nat) (K77 : Hp → Option α) : Nat → Hp → Option Nat → Int32 → Int32 → Int32 → Int32 → Int32 → Option α
  | 0, _, _, _, _, _, _, _ => none
  | n + 1, h, l0, l1, l2, l3, l4, l5 =>
    if l2 ≤ l5 then
      K77 h
    else
      (gA h l0 5 1).bind fun v17 =>
      if isO h v17 3 = true then
      (fX3_agree N h v17 l1 l2 l5).bind fun v24 =>
        if v24 = 0 then
          fX5_addGuesses_L10 N K77 n h l0 l1 l2 l3 l4 (l5 + 1)
        else
          fX5_addGuesses_L34 N
            (fun h l0 l1 l2 l3 l4 l5 =>
              fX5_addGuesses_L10 N K77 n h l0 l1 l2 l3 l4 (l5 + 1))
            N h l0 l1 l2 l3 l4 l5 l5
      else none
def fX5_addGuesses (N : Nat) (h : Hp) (l0 : Option Nat) (l1 : Int32) (l2 : Int32) (l3 : Int32) : Option (Hp) :=
  fX5_addGuesses_L10 N
    (fun h =>
      some h)
    N h l0 l1 l2 l3 (jmax l2 (1 : Int32)) (0 : Int32)
def fX5_noteGuessesByTooth_L10 {α : Type} (N : Nat) (K69 : Hp → Option α) : Nat → Hp → Option Nat → Int32 → Int32 → Option α
  | 0, _, _, _, _ => none
  | n + 1, h, l0, l1, l2 =>
    (gA h l0 5 2).bind fun v12 =>
    (gI h v12 0 4).bind fun v15 =>
    if v15 ≤ l2 then
      K69 h
    else
      (gA h l0 5 2).bind fun v22 =>
      if isO h v22 0 = true then
      (fX0_fits N h v22 l1 l2).bind fun v27 =>
        if v27 = 0 then
          fX5_noteGuessesByTooth_L10 N K69 n h l0 l1 (l2 + 1)
        else
          (gA h l0 5 2).bind fun v35 =>
          if isO h v35 0 = true then
          (fX0_teethOf N h v35 l1).bind fun v39 =>
            (gA h l0 5 2).bind fun v43 =>
            if isO h v43 0 = true then
            (fX0_divisorOf N h v43 l1 l2).bind fun v48 =>
              (gA h l0 5 2).bind fun v52 =>
              if isO h v52 0 = true then
              (fX0_petalsOf N h v52 l1 l2).bind fun v57 =>
                if isO h l0 5 = true then
                (fX5_addGuesses N h l0 v39 v48 v57).bind fun z60 =>
                  fX5_noteGuessesByTooth_L10 N K69 n z60 l0 l1 (l2 + 1)
                else none
              else none
            else none
          else none
      else none
def fX5_noteGuessesByTooth (N : Nat) (h : Hp) (l0 : Option Nat) (l1 : Int32) : Option (Hp) :=
  (gA h l0 5 8).bind fun v1 =>
  (fJ7_fill_53178 N h v1 (0 : Int32)).bind fun z5 =>
  fX5_noteGuessesByTooth_L10 N
    (fun h =>
      some h)
    N z5 l0 l1 (0 : Int32)
def fX5_look_L33 {α : Type} (N : Nat) (K96 : Hp → Int32 → Option α) : Nat → Hp → Option Nat → Int32 → Int32 → Int32 → Int32 → Int32 → Option α
  | 0, _, _, _, _, _, _, _ => none
  | n + 1, h, l0, l1, l2, l3, l4, l5 =>
    (gA h l0 5 2).bind fun v36 =>
    if isO h v36 0 = true then
    (fX0_teethOf N h v36 l1).bind fun v40 =>
      if v40 ≤ l5 then
        K96 h l4
      else
        (gA h l0 5 8).bind fun v49 =>
        (aL h v49).bind fun v52 =>
        if v52 ≤ l5 then
          K96 h l4
        else
          (gA h l0 5 8).bind fun v57 =>
          (rI h v57 0 l5).bind fun v62 =>
          (gA h l0 5 8).bind fun v65 =>
          (rI h v65 0 l5).bind fun v70 =>
          if l3 ≤ (jmax v62 (l2 - v70)) then
            fX5_look_L33 N K96 n h l0 l1 l2 l3 l4 (l5 + 1)
          else
            fX5_look_L33 N K96 n h l0 l1 l2 (jmax v62 (l2 - v70)) l5 (l5 + 1)
    else none
def fX5_look (N : Nat) (h : Hp) (l0 : Option Nat) (l1 : Int32) : Option (Int32 × Hp) :=
  (gA h l0 5 2).bind fun v1 =>
  if isO h v1 0 = true then
  (fX0_hasRing N h v1 l1).bind fun v5 =>
    if v5 = 0 then
      some ((-1 : Int32), h)
    else
      if isO h l0 5 = true then
      (fX5_guesses N h l0 l1).bind fun v15 =>
        if isO h l0 5 = true then
        (fX5_noteGuessesByTooth N h l0 l1).bind fun z21 =>
          fX5_look_L33 N
            (fun h l4 =>
              some (l4, h))
            N z21 l0 l1 v15 v15 (-9 : Int32) (0 : Int32)
        else none
      else none
  else none
def fX6_look_L14 {α : Type} (N : Nat) (K37 : Hp → Option Nat → Int32 → Int32 → Option α) : Nat → Hp → Option Nat → Int32 → Int32 → Int32 → Option α
  | 0, _, _, _, _, _ => none
  | n + 1, h, l0, l1, l2, l3 =>
    (gA h l0 6 3).bind fun v16 =>
    (rI h v16 0 l1).bind fun v20 =>
    if v20 ≤ l3 then
      K37 h l0 l1 l2
    else
      (gA h l0 6 28).bind fun v25 =>
      (wI h v25 0 l3 (0 : Int32)).bind fun h30 =>
      fX6_look_L14 N K37 n h30 l0 l1 l2 (l3 + 1)
def fX6_look_L95 {α : Type} (N : Nat) (K131 : Hp → Option Nat → Int32 → Int32 → Int32 → Int32 → Option α) : Nat → Hp → Option Nat → Int32 → Int32 → Int32 → Int32 → Int32 → Option α
  | 0, _, _, _, _, _, _, _ => none
  | n + 1, h, l0, l1, l2, l3, l4, l5 =>
    (gA h l0 6 3).bind fun v98 =>
    (rI h v98 0 l1).bind fun v102 =>
    if v102 ≤ l5 then
      K131 h l0 l1 l2 l3 l4
    else
      (gA h l0 6 28).bind fun v107 =>
      (rI h v107 0 l5).bind fun v113 =>
      (wI h v107 0 l5 (v113 + (1 : Int32))).bind fun h116 =>
      if isO h116 l0 6 = true then
      (fX6_commonOf N h116 l0 l1 l3).bind fun v122 =>
        fX6_look_L95 N K131 n h116 l0 l1 l2 l3 l4 (l5 + v122)
      else none
def fX6_look_L50 {α : Type} (N : Nat) (K137 : Hp → Option Nat → Int32 → Int32 → Int32 → Option α) : Nat → Hp → Option Nat → Int32 → Int32 → Int32 → Int32 → Option α
  | 0, _, _, _, _, _, _ => none
  | n + 1, h, l0, l1, l2, l3, l4 =>
    (gA h l0 6 3).bind fun v53 =>
    (rI h v53 0 l1).bind fun v57 =>
    if v57 ≤ l4 then
      K137 h l0 l1 l2 l3
    else
      if isO h l0 6 = true then
      (fX6_fits N h l0 l1 l3).bind fun v64 =>
        if v64 = 0 then
          fX6_look_L50 N K137 n h l0 l1 l2 l3 (l4 + 1)
        else
          if isO h l0 6 = true then
          (fX6_isSo N h l0 l1 l3 l4).bind fun v75 =>
            if v75 = 0 then
              fX6_look_L50 N K137 n h l0 l1 l2 l3 (l4 + 1)
            else
              if isO h l0 6 = true then
              (fX6_commonOf N h l0 l1 l3).bind fun v89 =>
                if v89 = 0 then none else
                fX6_look_L95 N
                  (fun h l0 l1 l2 l3 l4 =>
                    fX6_look_L50 N K137 n h l0 l1 l2 l3 (l4 + 1))
                  N h l0 l1 (l2 + 1) l3 l4 (jrem l4 v89)
              else none
          else none
      else none
def fX6_look_L39 {α : Type} (N : Nat) (K143 : Hp → Option Nat → Int32 → Int32 → Option α) : Nat → Hp → Option Nat → Int32 → Int32 → Int32 → Option α
  | 0, _, _, _, _, _ => none
  | n + 1, h, l0, l1, l2, l3 =>
    (gI h l0 6 1).bind fun v41 =>
    if v41 ≤ l3 then
      K143 h l0 l1 l2
    else
      fX6_look_L50 N
        (fun h l0 l1 l2 l3 =>
          fX6_look_L39 N K143 n h l0 l1 l2 (l3 + 1))
        N h l0 l1 l2 l3 (0 : Int32)
def fX6_look_j216 {α : Type} (N : Nat) (K152 : Hp → Option Nat → Int32 → Int32 → Int32 → Int32 → Int32 → Option α) (h : Hp) (l0 : Option Nat) (l1 : Int32) (l2 : Int32) (l4 : Int32) (l5 : Int32) (l6 : Int32) (s0 : Int32) : Option α :=
  if l4 ≤ l6 then
    K152 h l0 l1 l2 s0 l4 (l5 + 1)
  else
    K152 h l0 l1 l2 s0 l6 (l5 + 1)
def fX6_look_j201 {α : Type} (N : Nat) (K152 : Hp → Option Nat → Int32 → Int32 → Int32 → Int32 → Int32 → Option α) (h : Hp) (l0 : Option Nat) (l1 : Int32) (l2 : Int32) (l3 : Int32) (l4 : Int32) (l5 : Int32) (s0 : Int32) : Option α :=
  if l4 ≤ s0 then
    fX6_look_j216 N K152 h l0 l1 l2 l4 l5 s0 l3
  else
    fX6_look_j216 N K152 h l0 l1 l2 l4 l5 s0 l5
def fX6_look_L152 {α : Type} (N : Nat) (K239 : Hp → Int32 → Option α) : Nat → Hp → Option Nat → Int32 → Int32 → Int32 → Int32 → Int32 → Option α
  | 0, _, _, _, _, _, _, _ => none
  | n + 1, h, l0, l1, l2, l3, l4, l5 =>
    (gA h l0 6 3).bind fun v155 =>
    (rI h v155 0 l1).bind fun v159 =>
    if v159 ≤ l5 then
      K239 h l3
    else
      (gA h l0 6 28).bind fun v164 =>
      (rI h v164 0 l5).bind fun v169 =>
      (gA h l0 6 28).bind fun v172 =>
      (rI h v172 0 l5).bind fun v177 =>
      if v169 ≤ (l2 - v177) then
        (gA h l0 6 28).bind fun v194 =>
        (rI h v194 0 l5).bind fun v199 =>
        fX6_look_j201 N (fX6_look_L152 N K239 n) h l0 l1 l2 l3 l4 l5 (l2 - v199)
      else
        (gA h l0 6 28).bind fun v183 =>
        (rI h v183 0 l5).bind fun v188 =>
        fX6_look_j201 N (fX6_look_L152 N K239 n) h l0 l1 l2 l3 l4 l5 v188
def fX6_look (N : Nat) (h : Hp) (l0 : Option Nat) (l1 : Int32) : Option (Int32 × Hp) :=
  if isO h l0 6 = true then
  (fX6_isRing N h l0 l1).bind fun v2 =>
    if v2 = 0 then
      some ((-1 : Int32), h)
    else
      fX6_look_L14 N
        (fun h l0 l1 l2 =>
          fX6_look_L39 N
            (fun h l0 l1 l2 =>
              fX6_look_L152 N
                (fun h l3 =>
                  some (l3, h))
                N h l0 l1 l2 (-9 : Int32) l2 (0 : Int32))
            N h l0 l1 l2 (0 : Int32))
        N h l0 l1 (0 : Int32) (0 : Int32)
  else none
def fX5_markOfCurve (N : Nat) (h : Hp) (l0 : Option Nat) (l1 : Option Nat) : Option (Int32 × Hp) :=
  (gJ h l0 5 6).bind fun v2 =>
  (pV h l0 5 6 (.long (v2 + (1 : Int64)))).bind fun h7 =>
  (gI h7 l1 1 6).bind fun v11 =>
  some (v11, h7)
def fX5_markOfRose (N : Nat) (h : Hp) (l0 : Option Nat) (l1 : Option Nat) : Option (Int32 × Hp) :=
  (gJ h l0 5 6).bind fun v2 =>
  (pV h l0 5 6 (.long (v2 + (10 : Int64)))).bind fun h9 =>
  if isO h9 l0 5 = true then
  (fX5_markOfCurve N h9 l0 l1).bind fun z14 =>
    (gI z14.2 l1 1 2).bind fun v18 =>
    some (z14.1 + v18, z14.2)
  else none
def fX5_markOfWeb (N : Nat) (h : Hp) (l0 : Option Nat) (l1 : Option Nat) : Option (Int32 × Hp) :=
  (gJ h l0 5 6).bind fun v2 =>
  (pV h l0 5 6 (.long (v2 + (100 : Int64)))).bind fun h9 =>
  if isO h9 l0 5 = true then
  (fX5_markOfCurve N h9 l0 l1).bind fun z14 =>
    (gI z14.2 l1 1 7).bind fun v18 =>
    some (z14.1 - v18, z14.2)
  else none
def fX5_markOfBouquet (N : Nat) (h : Hp) (l0 : Option Nat) (l1 : Option Nat) : Option (Int32 × Hp) :=
  (gJ h l0 5 6).bind fun v2 =>
  (pV h l0 5 6 (.long (v2 + (1000 : Int64)))).bind fun h9 =>
  if isO h9 l0 5 = true then
  (fX5_markOfRose N h9 l0 l1).bind fun z14 =>
    some (z14.1 * (2 : Int32), z14.2)
  else none
def fX5_markOfLace (N : Nat) (h : Hp) (l0 : Option Nat) (l1 : Option Nat) (l2 : Int32) : Option (Int32 × Hp) :=
  (gJ h l0 5 6).bind fun v2 =>
  (pV h l0 5 6 (.long (v2 + (10000 : Int64)))).bind fun h9 =>
  if isO h9 l0 5 = true then
  (fX5_markOfWeb N h9 l0 l1).bind fun z14 =>
    some (z14.1 + l2, z14.2)
  else none
def fX5_markOfStar (N : Nat) (h : Hp) (l0 : Option Nat) (l1 : Option Nat) : Option (Int32 × Hp) :=
  (gJ h l0 5 6).bind fun v2 =>
  (pV h l0 5 6 (.long (v2 + (100000 : Int64)))).bind fun h9 =>
  if isO h9 l0 5 = true then
  (fX5_markOfCurve N h9 l0 l1).bind fun z14 =>
    (gI z14.2 l1 1 3).bind fun v18 =>
    some (z14.1 + v18, z14.2)
  else none
def fX5_mark (N : Nat) (h : Hp) (l0 : Option Nat) (l1 : Int32) (l2 : Int32) : Option (Int32 × Hp) :=
  (gA h l0 5 3).bind fun v1 =>
  if isO h v1 2 = true then
  (fX2_curveAt N h v1 l2).bind fun v5 =>
    if v5 = none then
      some ((-1000000 : Int32), h)
    else
      if l1 = 0 then
        if isO h l0 5 = true then
        (fX5_markOfCurve N h l0 v5).bind fun z58 =>
          some (z58.1, z58.2)
        else none
      else
      if l1 = 1 then
        if isO h l0 5 = true then
        (fX5_markOfRose N h l0 v5).bind fun z64 =>
          some (z64.1, z64.2)
        else none
      else
      if l1 = 2 then
        if isO h l0 5 = true then
        (fX5_markOfWeb N h l0 v5).bind fun z70 =>
          some (z70.1, z70.2)
        else none
      else
      if l1 = 3 then
        if isO h l0 5 = true then
        (fX5_markOfBouquet N h l0 v5).bind fun z76 =>
          some (z76.1, z76.2)
        else none
      else
      if l1 = 4 then
        if isO h l0 5 = true then
        (fX5_markOfLace N h l0 v5 l2).bind fun z83 =>
          some (z83.1, z83.2)
        else none
      else
      if l1 = 5 then
        if isO h l0 5 = true then
        (fX5_markOfStar N h l0 v5).bind fun z89 =>
          some (z89.1, z89.2)
        else none
      else
        some ((-1000000 : Int32), h)
  else none
def fX6_marked_j161 (N : Nat) (h : Hp) (l0 : Option Nat) (l1 : Int32) (l3 : Int32) (l4 : Int32) : Option (Int32 × Hp) :=
  if l1 = (5 : Int32) then
    (gA h l0 6 8).bind fun v169 =>
    (rI h v169 0 (l3 + (3 : Int32))).bind fun v175 =>
    (gJ h l0 6 12).bind fun v181 =>
    (pV h l0 6 12 (.long (v181 + (100000 : Int64)))).bind fun h188 =>
    some (l4 + v175, h188)
  else
    some (l4, h)
def fX6_marked_j138 (N : Nat) (h : Hp) (l0 : Option Nat) (l1 : Int32) (l2 : Int32) (l3 : Int32) (l4 : Int32) : Option (Int32 × Hp) :=
  if l1 = (4 : Int32) then
    (gJ h l0 6 12).bind fun v151 =>
    (pV h l0 6 12 (.long (v151 + (10000 : Int64)))).bind fun h158 =>
    fX6_marked_j161 N h158 l0 l1 l3 (l4 + l2)
  else
    fX6_marked_j161 N h l0 l1 l3 l4
def fX6_marked_j115 (N : Nat) (h : Hp) (l0 : Option Nat) (l1 : Int32) (l2 : Int32) (l3 : Int32) (l4 : Int32) : Option (Int32 × Hp) :=
  if l1 = (3 : Int32) then
    (gJ h l0 6 12).bind fun v128 =>
    (pV h l0 6 12 (.long (v128 + (1000 : Int64)))).bind fun h135 =>
    fX6_marked_j138 N h135 l0 l1 l2 l3 (l4 * (2 : Int32))
  else
    fX6_marked_j138 N h l0 l1 l2 l3 l4
def fX6_marked_j80 (N : Nat) (h : Hp) (l0 : Option Nat) (l1 : Int32) (l2 : Int32) (l3 : Int32) (l4 : Int32) : Option (Int32 × Hp) :=
  (gA h l0 6 8).bind fun v84 =>
  (rI h v84 0 l3).bind fun v88 =>
  (gA h l0 6 8).bind fun v90 =>
  (rI h v90 0 (l3 + (1 : Int32))).bind fun v96 =>
  if isO h l0 6 = true then
  (fX6_roundsOf N h l0 v88 v96).bind fun v97 =>
    (gJ h l0 6 12).bind fun v105 =>
    (pV h l0 6 12 (.long (v105 + (100 : Int64)))).bind fun h112 =>
    fX6_marked_j115 N h112 l0 l1 l2 l3 (l4 - v97)
  else none
def fX6_marked_j70 (N : Nat) (h : Hp) (l0 : Option Nat) (l1 : Int32) (l2 : Int32) (l3 : Int32) (l4 : Int32) : Option (Int32 × Hp) :=
  if l1 = (2 : Int32) then
    fX6_marked_j80 N h l0 l1 l2 l3 l4
  else
    if l1 = (4 : Int32) then
      fX6_marked_j80 N h l0 l1 l2 l3 l4
    else
      fX6_marked_j115 N h l0 l1 l2 l3 l4
def fX6_marked_j45 (N : Nat) (h : Hp) (l0 : Option Nat) (l1 : Int32) (l2 : Int32) (l3 : Int32) (l4 : Int32) : Option (Int32 × Hp) :=
  (gA h l0 6 8).bind fun v48 =>
  (rI h v48 0 (l3 + (2 : Int32))).bind fun v54 =>
  (gJ h l0 6 12).bind fun v60 =>
  (pV h l0 6 12 (.long (v60 + (10 : Int64)))).bind fun h67 =>
  fX6_marked_j70 N h67 l0 l1 l2 l3 (l4 + v54)
def fX6_marked (N : Nat) (h : Hp) (l0 : Option Nat) (l1 : Int32) (l2 : Int32) : Option (Int32 × Hp) :=
  (gA h l0 6 8).bind fun v7 =>
  (rI h v7 0 ((6 : Int32) * l2)).bind fun v11 =>
  (gA h l0 6 8).bind fun v13 =>
  (rI h v13 0 (((6 : Int32) * l2) + (1 : Int32))).bind fun v19 =>
  if isO h l0 6 = true then
  (fX6_petalsOf N h l0 v11 v19).bind fun v20 =>
    (gJ h l0 6 12).bind fun v27 =>
    (pV h l0 6 12 (.long (v27 + (1 : Int64)))).bind fun h32 =>
    if l1 = (1 : Int32) then
      fX6_marked_j45 N h32 l0 l1 l2 ((6 : Int32) * l2) v20
    else
      if l1 = (3 : Int32) then
        fX6_marked_j45 N h32 l0 l1 l2 ((6 : Int32) * l2) v20
      else
        fX6_marked_j70 N h32 l0 l1 l2 ((6 : Int32) * l2) v20
  else none
def fX6_mark (N : Nat) (h : Hp) (l0 : Option Nat) (l1 : Int32) (l2 : Int32) : Option (Int32 × Hp) :=
  (fX6_in N h l1 (0 : Int32) (5 : Int32)).bind fun v3 =>
  if v3 = 0 then
    some ((-1000000 : Int32), h)
  else
    if isO h l0 6 = true then
    (fX6_isCurve N h l0 l2).bind fun v11 =>
      if v11 = 0 then
        some ((-1000000 : Int32), h)
      else
        if isO h l0 6 = true then
        (fX6_marked N h l0 l1 l2).bind fun z20 =>
          some (z20.1, z20.2)
        else none
    else none
def fX8_becomes_L2 {α : Type} (N : Nat) (K26 : Hp → Option Nat → Option Nat → Option α) : Nat → Hp → Option Nat → Option Nat → Int32 → Option α
  | 0, _, _, _, _ => none
  | n + 1, h, l0, l1, l2 =>
    if (10 : Int32) ≤ l2 then
      K26 h l0 l1
    else
      (gA h l0 8 0).bind fun v9 =>
      (gA h l1 8 0).bind fun v14 =>
      (rA h v14 3 l2).bind fun v18 =>
      (wA h v9 3 l2 v18).bind fun h19 =>
      fX8_becomes_L2 N K26 n h19 l0 l1 (l2 + 1)
def fX8_becomes (N : Nat) (h : Hp) (l0 : Option Nat) (l1 : Option Nat) : Option (Hp) :=
  fX8_becomes_L2 N
    (fun h l0 l1 =>
      (gI h l1 8 1).bind fun v28 =>
      (pV h l0 8 1 (.int v28)).bind fun h31 =>
      some h31)
    N h l0 l1 (0 : Int32)
def fX7_init (N : Nat) (h : Hp) (sz : Nat) (l0 : Option Nat) (l1 : Option Nat) (l2 : Option Nat) : Option (Hp × Nat) :=
  if l0 = none then none else
  (fX8_init N (up h sz (oO 8 [.null, .int 0])) (sz + 1) (some sz)).bind fun z9 =>
  (pV z9.1 l0 7 1 (va_rf (some sz))).bind fun h12 =>
  (pV h12 l0 7 0 (va_rf l1)).bind fun h17 =>
  (gA h17 l0 7 1).bind fun v21 =>
  if isO h17 v21 8 = true then
  (fX8_becomes N h17 v21 l2).bind fun z25 =>
    some (z25, z9.2)
  else none
def fX5_keep (N : Nat) (h : Hp) (sz : Nat) (l0 : Option Nat) (l1 : Int32) : Option (Int32 × Hp × Nat) :=
  (fX5_within N h l1 (0 : Int32) (1 : Int32)).bind fun v3 =>
  if v3 = 0 then
    some ((-1 : Int32), h, sz)
  else
    (gA h l0 5 5).bind fun v12 =>
    (gA (up h sz (oO 7 [.null, .null])) l0 5 3).bind fun v21 =>
    (gA (up h sz (oO 7 [.null, .null])) l0 5 4).bind fun v25 =>
    (fX7_init N (up h sz (oO 7 [.null, .null])) (sz + 1) (some sz) v21 v25).bind fun z28 =>
    (wA z28.1 v12 8 l1 (some sz)).bind fun h31 =>
    (gA h31 l0 5 3).bind fun v33 =>
    (gA h31 v33 2 2).bind fun v36 =>
    (aL h31 v36).bind fun v39 =>
    some (v39, h31, z28.2)
def fX6_keep_L49 {α : Type} (N : Nat) (K79 : Hp → Option Nat → Option α) : Nat → Hp → Option Nat → Int32 → Int32 → Option α
  | 0, _, _, _, _ => none
  | n + 1, h, l0, l2, l3 =>
    if (780 : Int32) ≤ l3 then
      K79 h l0
    else
      (gA h l0 6 29).bind fun v57 =>
      (gA h l0 6 23).bind fun v67 =>
      (rI h v67 0 l3).bind fun v71 =>
      (wI h v57 0 ((l2 + (80 : Int32)) + l3) v71).bind fun h72 =>
      fX6_keep_L49 N K79 n h72 l0 l2 (l3 + 1)
def fX6_keep (N : Nat) (h : Hp) (l0 : Option Nat) (l1 : Int32) : Option (Int32 × Hp) :=
  (fX6_in N h l1 (0 : Int32) (1 : Int32)).bind fun v3 =>
  if v3 = 0 then
    some ((-1 : Int32), h)
  else
    (gA h l0 6 29).bind fun v18 =>
    (wI h v18 0 ((860 : Int32) * l1) (1 : Int32)).bind fun h23 =>
    (gA h23 l0 6 29).bind fun v25 =>
    (gI h23 l0 6 24).bind fun v32 =>
    (wI h23 v25 0 (((860 : Int32) * l1) + (1 : Int32)) v32).bind fun h35 =>
    (gA h35 l0 6 29).bind fun v38 =>
    if isO h35 l0 6 = true then
    (fX6_lays N h35 l0 v38 (((860 : Int32) * l1) + (2 : Int32))).bind fun z44 =>
      fX6_keep_L49 N
        (fun h l0 =>
          (gI h l0 6 6).bind fun v80 =>
          some (v80, h))
        N z44 l0 ((860 : Int32) * l1) (0 : Int32)
    else none
def fX5_back (N : Nat) (h : Hp) (l0 : Option Nat) (l1 : Int32) : Option (Int32 × Hp) :=
  (fX5_within N h l1 (0 : Int32) (1 : Int32)).bind fun v3 =>
  if v3 = 0 then
    some ((-1 : Int32), h)
  else
    (gA h l0 5 5).bind fun v12 =>
    (rA h v12 8 l1).bind fun v16 =>
    if v16 = none then
      some ((-2 : Int32), h)
    else
      (gA h v16 7 0).bind fun v27 =>
      (pV h l0 5 3 (va_rf v27)).bind fun h30 =>
      (gA h30 l0 5 4).bind fun v34 =>
      (gA h30 v16 7 1).bind fun v38 =>
      if isO h30 v34 8 = true then
      (fX8_becomes N h30 v34 v38).bind fun z41 =>
        (gA z41 l0 5 3).bind fun v45 =>
        (gA z41 v45 2 2).bind fun v48 =>
        (aL z41 v48).bind fun v51 =>
        some (v51, z41)
      else none
def fX6_back_L54 {α : Type} (N : Nat) (K84 : Hp → Option Nat → Option α) : Nat → Hp → Option Nat → Int32 → Int32 → Option α
  | 0, _, _, _, _ => none
  | n + 1, h, l0, l2, l3 =>
    if (780 : Int32) ≤ l3 then
      K84 h l0
    else
      (gA h l0 6 23).bind fun v62 =>
      (gA h l0 6 29).bind fun v67 =>
      (rI h v67 0 ((l2 + (80 : Int32)) + l3)).bind fun v76 =>
      (wI h v62 0 l3 v76).bind fun h77 =>
      fX6_back_L54 N K84 n h77 l0 l2 (l3 + 1)
def fX6_back (N : Nat) (h : Hp) (l0 : Option Nat) (l1 : Int32) : Option (Int32 × Hp) :=
  (fX6_in N h l1 (0 : Int32) (1 : Int32)).bind fun v3 =>
  if v3 = 0 then
    some ((-1 : Int32), h)
  else
    (gA h l0 6 29).bind fun v18 =>
    (rI h v18 0 ((860 : Int32) * l1)).bind fun v22 =>
    if v22 = 0 then
      some ((-2 : Int32), h)
    else
      (gA h l0 6 29).bind fun v31 =>
      (rI h v31 0 (((860 : Int32) * l1) + (1 : Int32))).bind fun v37 =>
      (pV h l0 6 24 (.int v37)).bind fun h38 =>
      (gA h38 l0 6 29).bind fun v43 =>
      if isO h38 l0 6 = true then
      (fX6_takes N h38 l0 v43 (((860 : Int32) * l1) + (2 : Int32))).bind fun z49 =>
        fX6_back_L54 N
          (fun h l0 =>
            (gI h l0 6 6).bind fun v85 =>
            some (v85, h))
          N z49 l0 ((860 : Int32) * l1) (0 : Int32)
      else none
def fX5_count (N : Nat) (h : Hp) (l0 : Option Nat) (l1 : Int32) : Option (Int32) :=
  if l1 = 0 then
    (gA h l0 5 2).bind fun v41 =>
    (gI h v41 0 3).bind fun v44 =>
    some v44
  else
  if l1 = 1 then
    (gA h l0 5 2).bind fun v49 =>
    (gI h v49 0 4).bind fun v52 =>
    some v52
  else
  if l1 = 2 then
    (gA h l0 5 2).bind fun v57 =>
    (gI h v57 0 5).bind fun v60 =>
    some v60
  else
  if l1 = 3 then
    (gA h l0 5 1).bind fun v65 =>
    (gI h v65 3 2).bind fun v68 =>
    some v68
  else
  if l1 = 4 then
    (gA h l0 5 4).bind fun v73 =>
    (gI h v73 8 1).bind fun v76 =>
    some v76
  else
  if l1 = 5 then
    (gA h l0 5 0).bind fun v81 =>
    (gI h v81 4 1).bind fun v84 =>
    some v84
  else
    some (-1 : Int32)
def fX6_count (N : Nat) (h : Hp) (l0 : Option Nat) (l1 : Int32) : Option (Int32) :=
  (fX6_in N h l1 (0 : Int32) (5 : Int32)).bind fun v3 =>
  if v3 = 0 then
    some (-1 : Int32)
  else
    if l1 = 0 then
      (gI h l0 6 0).bind fun v16 =>
      some v16
    else
      if l1 = (1 : Int32) then
        (gI h l0 6 1).bind fun v28 =>
        some v28
      else
        if l1 = (2 : Int32) then
          (gI h l0 6 2).bind fun v40 =>
          some v40
        else
          if l1 = (3 : Int32) then
            (gI h l0 6 9).bind fun v52 =>
            some v52
          else
            if l1 = (4 : Int32) then
              (gI h l0 6 24).bind fun v64 =>
              some v64
            else
              (gI h l0 6 14).bind fun v71 =>
              some v71
def fX5_trace (N : Nat) (h : Hp) (l0 : Option Nat) : Option (Int64) :=
  (gJ h l0 5 6).bind fun v1 =>
  some v1
def fX6_trace (N : Nat) (h : Hp) (l0 : Option Nat) : Option (Int64) :=
  (gJ h l0 6 12).bind fun v1 =>
  some v1
