theorem xor_sign {x y : Int32} (hy : 0 ≤ y.toInt) : 0 ≤ (x ^^^ y) ↔ 0 ≤ x.toInt := by
  have h0 : (0 : Int32).toInt = 0 := by decide
  rw [Int32.le_iff_toInt_le, h0]
  have e : (x ^^^ y).toInt = (x.toBitVec ^^^ y.toBitVec).toInt := rfl
  have hy' : y.toBitVec.msb = false := by
    rw [BitVec.msb_eq_toInt]
    have : y.toBitVec.toInt = y.toInt := rfl
    rw [this]
    simp; omega
  have k1 : (x.toBitVec ^^^ y.toBitVec).msb = x.toBitVec.msb := by rw [BitVec.msb_xor, hy', Bool.xor_false]
  rw [BitVec.msb_eq_toInt, BitVec.msb_eq_toInt] at k1
  have e2 : x.toBitVec.toInt = x.toInt := rfl
  rw [e2] at k1
  rw [e]
  have k2 := decide_eq_decide.mp k1
  omega
theorem nI_of_int {x : Int32} {n : Nat} (h : x.toInt = (n : Int)) (hn : n < 2 ^ 31) : x = nI n := Int32.toInt_inj.mp (by rw [h, nI_toInt hn])
theorem x_rest {N : Nat} {h : Hp} {x : Int32} {d : Nat} (hx1 : -1073741824 < x.toInt) (hx2 : x.toInt < 1073741824) (hd : 0 < d) (hd2 : d < 1073741824) : fX5_rest N h x (nI d) = some (nI (x.toInt % (d : Int)).toNat) := by
  have ed := nI_toInt (n := d) (by omega)
  have ej := jrem_toInt (x := x) (y := nI d) hx1 hx2 (by omega) (by omega)
  rw [ed] at ej
  have hb := tmod_bounds (a := x.toInt) (M := (d : Int)) (by omega)
  have hm0 := Int.emod_nonneg x.toInt (b := (d : Int)) (by omega)
  have hm1 := Int.emod_lt_of_pos x.toInt (b := (d : Int)) (by omega)
  have hp : (0 : Int32) < nI d := nI_lt (a := 0) hd (by omega)
  have hne : ¬ nI d = 0 := nI_ne0 hd (by omega)
  have hx := xor_sign (x := x) (y := nI d) (by omega)
  simp only [fX5_rest, fJ9_floorMod_7cf53]
  rw [if_pos hp, if_neg hne]
  by_cases c : 0 ≤ x.toInt
  · rw [if_pos (hx.mpr c)]
    refine congrArg some (nI_of_int ?_ (by omega))
    rw [ej, Int.tmod_eq_emod_of_nonneg c]
    omega
  · rw [if_neg (fun z => c (hx.mp z))]
    have ht : x.toInt.tmod d = 0 ∧ x.toInt % d = 0 ∨ (x.toInt.tmod d ≠ 0 ∧ x.toInt % (d : Int) = x.toInt.tmod d + d) := by
      have e1 := Int.tmod_add_tdiv_mul x.toInt d
      have e2 := Int.emod_add_mul_ediv x.toInt d
      by_cases z : x.toInt.tmod d = 0
      · exact Or.inl ⟨z, Int.emod_eq_zero_of_dvd (Int.dvd_of_tmod_eq_zero z)⟩
      · refine Or.inr ⟨z, ?_⟩
        have hle : x.toInt.tmod d ≤ 0 := by
          have := Int.tmod_nonneg (a := -x.toInt) (d : Int) (by omega)
          rw [Int.neg_tmod] at this
          omega
        have hdv : (d : Int) ∣ x.toInt % d - x.toInt.tmod d := by
          refine ⟨x.toInt.tdiv d - x.toInt / d, ?_⟩
          rw [Int.mul_sub, Int.mul_comm (d : Int) (x.toInt.tdiv d)]
          omega
        obtain ⟨q, hq⟩ := hdv
        have hq1 : q = 1 := by
          have h1 : 0 < (d : Int) * q := by omega
          have h2 : (d : Int) * q < d * 2 := by omega
          have h3 : 0 < q := by
            apply Int.lt_of_not_ge
            intro hh
            have := Int.mul_le_mul_of_nonneg_left hh (show (0 : Int) ≤ d by omega)
            omega
          have h4 : q < 2 := Int.lt_of_mul_lt_mul_left h2 (by omega)
          omega
        rw [hq1] at hq
        omega
    rcases ht with ⟨t1, t2⟩ | ⟨t1, t2⟩
    · have e0 : jrem x (nI d) = 0 := Int32.toInt_inj.mp (by rw [ej, t1]; rfl)
      rw [if_pos e0, e0, t2]; rfl
    · have e0 : ¬ jrem x (nI d) = 0 := fun z => t1 (by rw [← ej, z]; rfl)
      rw [if_neg e0]
      refine congrArg some (nI_of_int ?_ (by omega))
      rw [Int32.toInt_add, ej, ed, bmod_id (by omega) (by omega)]
      omega
theorem x_restN {N : Nat} {h : Hp} {n d : Nat} (hn : n < 1073741824) (hd : 0 < d) (hd2 : d < 1073741824) : fX5_rest N h (nI n) (nI d) = some (nI (n % d)) := by
  have e := nI_toInt (n := n) (by omega)
  rw [x_rest (by omega) (by omega) hd hd2, e]
  congr 2
theorem x_restS {N : Nat} {h : Hp} {x y d : Nat} (hx : x < 536870912) (hy : y < 536870912) (hd : 0 < d) (hd2 : d < 1073741824) : fX5_rest N h (nI x - nI y) (nI d) = some (nI (((x : Int) - (y : Int)) % (d : Int)).toNat) := by
  have e := pk_sub_toInt (a := x) (b := y) (by omega) (by omega)
  rw [x_rest (by omega) (by omega) hd hd2, e]
theorem gcd_step (x y : Nat) : Nat.gcd x y = Nat.gcd y (x % y) := by rw [Nat.gcd_comm y, ← Nat.gcd_rec, Nat.gcd_comm]
theorem x_gdL {N : Nat} {h : Hp} {α : Type} {K : Int32 → Option α} : ∀ (k n j x y : Nat), y < 2 ^ k → 2 * k + 1 < n → 2 * k + 1 + j ≤ 64 → x < 100000 → y < 100000 → fX5_greatestDivisor_L7 N h K n (nI x) (nI y) (nI j) = K (nI (Nat.gcd x y)) := by
  intro k
  induction k with
  | zero =>
    intro n j x y hy hn hj hx _
    obtain ⟨n, rfl⟩ : ∃ n', n = n' + 1 := ⟨n - 1, by omega⟩
    have : y = 0 := by omega
    subst this
    rw [fX5_greatestDivisor_L7, i_64, if_neg (nI_ge (by omega) (by omega)), if_pos nI_0, Nat.gcd_zero_right]
  | succ k ih =>
    intro n j x y hy hn hj hx hy2
    obtain ⟨n, rfl⟩ : ∃ n', n = n' + 2 := ⟨n - 2, by omega⟩
    rw [fX5_greatestDivisor_L7, i_64, if_neg (nI_ge (by omega) (by omega))]
    by_cases c : y = 0
    · subst c
      rw [if_pos nI_0, Nat.gcd_zero_right]
    · have hl : x % y < y := Nat.mod_lt _ (by omega)
      rw [if_neg (nI_ne0 (by omega) (by omega)), if_neg (nI_ne0 (by omega) (by omega)), jrem_nI (by omega) (by omega) (by omega), nI_1]
      have eg : Nat.gcd x y = Nat.gcd y (x % y) := by rw [Nat.gcd_comm y, ← Nat.gcd_rec, Nat.gcd_comm]
      rw [eg, fX5_greatestDivisor_L7, i_64, if_neg (nI_ge (by omega) (by omega))]
      by_cases c2 : x % y = 0
      · rw [c2, if_pos nI_0, Nat.gcd_zero_right]
      · have hl2 : y % (x % y) < x % y := Nat.mod_lt _ (by omega)
        have hs : y % (x % y) + (x % y) ≤ y := by
          have h1 := Nat.div_add_mod y (x % y)
          have h2 : 0 < y / (x % y) := Nat.div_pos (by omega) (by omega)
          have h3 : x % y * 1 ≤ x % y * (y / (x % y)) := Nat.mul_le_mul (Nat.le_refl _) h2
          omega
        rw [if_neg (nI_ne0 (by omega) (by omega)), if_neg (nI_ne0 (by omega) (by omega)), jrem_nI (by omega) (by omega) (by omega), nI_1]
        have hp : 2 ^ (k + 1) = 2 ^ k * 2 := Nat.pow_succ 2 k
        rw [ih n (j + 1 + 1) (x % y) (y % (x % y)) (by omega) (by omega) (by omega) (by omega) (by omega)]
        rw [gcd_step y (x % y)]
theorem x_gd {N : Nat} {h : Hp} {x y : Nat} (hN : 2000 ≤ N) (hx : x ≤ 1000) (hy : y ≤ 1000) : fX5_greatestDivisor N h (nI x) (nI y) = some (nI (Nat.gcd x y)) := by
  simp only [fX5_greatestDivisor]
  exact x_gdL (K := fun l2 => some l2) 10 N 0 x y (by omega) (by omega) (by omega) (by omega) (by omega)
theorem x_part {N : Nat} {h : Hp} {x y : Nat} (hx : x < 2 ^ 31) (hy : 0 < y) (hy2 : y < 2 ^ 31) : fX5_part N h (nI x) (nI y) = some (nI (x / y)) := by
  have e0 : ¬ nI y = 0 := nI_ne0 hy hy2
  simp (disch := omega) only [fX5_part, e0, Option.bind_some, Option.bind_none, ↓reduceIte, if_true, if_false, pk_div]
theorem x_in_y {N : Nat} {h : Hp} {v lo hi : Int32} (h1 : lo ≤ v) (h2 : v ≤ hi) : fX5_within N h v lo hi = some 1 := by
  simp only [fX5_within]
  rw [if_neg (Int32.not_lt.mpr h1), if_neg (Int32.not_lt.mpr h2)]
theorem x_in_n {N : Nat} {h : Hp} {v lo hi : Int32} (h1 : ¬ (lo ≤ v ∧ v ≤ hi)) : fX5_within N h v lo hi = some 0 := by
  simp only [fX5_within]
  by_cases c : v < lo
  · rw [if_pos c]
  · rw [if_neg c]
    by_cases d : hi < v
    · rw [if_pos d]
    · exact absurd ⟨Int32.not_lt.mp c, Int32.not_lt.mp d⟩ h1
/-! a box -/
def BX (E : Hp) (b R W P : Nat) (T C : Nat → Nat) : Prop := E b = some (oO 0 [.ref (b + 1), .ref (b + 2), .ref (b + 3), .int (nI R), .int (nI W), .int (nI P)]) ∧ (∃ f, E (b + 1) = some (oI 0 4 f) ∧ ∀ i, i < R → f i = nI (T i)) ∧ ∃ f, E (b + 2) = some (oI 0 6 f) ∧ ∀ i, i < W → f i = nI (C i)
theorem nvp {r : Int32} {R : Nat} (h : ¬ vp_in r R) : r < 0 ∨ (¬ r < 0 ∧ nI R ≤ r) ∨ 2 ^ 31 ≤ R := by
  by_cases c : r < 0
  · exact Or.inl c
  · by_cases hR : 2 ^ 31 ≤ R
    · exact Or.inr (Or.inr hR)
    · refine Or.inr (Or.inl ⟨c, ?_⟩)
      obtain ⟨j, hj, rfl⟩ := nI_of c
      refine nI_le ?_ hj
      apply Nat.le_of_not_lt
      intro z
      exact h (vp_in_nI z (by omega))
section XA
variable {E : Hp} {b N R W P i j : Nat} {T C : Nat → Nat}
theorem bx_O (X : BX E b R W P T C) : isO E (some b) 0 = true := isO_eq X.1
theorem x_hasRing_y (X : BX E b R W P T C) (B : okB R W P T C) (hi : i < R) : fX0_hasRing N E (some b) (nI i) = some 1 := by
  have := B.1
  have e : gI E (some b) 0 3 = some (nI R) := gI_eq X.1 rfl
  simp only [fX0_hasRing, e, Option.bind_some, Option.bind_none, ↓reduceIte, if_true, if_false]
  rw [if_neg (nI_neg (by omega)), if_neg (nI_ge (by omega) (by omega))]
theorem x_hasRing_n {r : Int32} (X : BX E b R W P T C) (B : okB R W P T C) (hi : ¬ vp_in r R) : fX0_hasRing N E (some b) r = some 0 := by
  have := B.1
  have e : gI E (some b) 0 3 = some (nI R) := gI_eq X.1 rfl
  simp only [fX0_hasRing, e, Option.bind_some, Option.bind_none, ↓reduceIte, if_true, if_false]
  rcases nvp hi with c | ⟨c, d⟩ | c
  · rw [if_pos c]
  · rw [if_neg c, if_pos d]
  · omega
theorem x_hasWheel_y (X : BX E b R W P T C) (B : okB R W P T C) (hi : i < W) : fX0_hasWheel N E (some b) (nI i) = some 1 := by
  have := B.2.1
  have e : gI E (some b) 0 4 = some (nI W) := gI_eq X.1 rfl
  simp only [fX0_hasWheel, e, Option.bind_some, Option.bind_none, ↓reduceIte, if_true, if_false]
  rw [if_neg (nI_neg (by omega)), if_neg (nI_ge (by omega) (by omega))]
theorem x_hasWheel_n {r : Int32} (X : BX E b R W P T C) (B : okB R W P T C) (hi : ¬ vp_in r W) : fX0_hasWheel N E (some b) r = some 0 := by
  have := B.2.1
  have e : gI E (some b) 0 4 = some (nI W) := gI_eq X.1 rfl
  simp only [fX0_hasWheel, e, Option.bind_some, Option.bind_none, ↓reduceIte, if_true, if_false]
  rcases nvp hi with c | ⟨c, d⟩ | c
  · rw [if_pos c]
  · rw [if_neg c, if_pos d]
  · omega
theorem x_hasPen_y (X : BX E b R W P T C) (B : okB R W P T C) (hi : i < P) : fX0_hasPen N E (some b) (nI i) = some 1 := by
  have := B.2.2.1
  have e : gI E (some b) 0 5 = some (nI P) := gI_eq X.1 rfl
  simp only [fX0_hasPen, e, Option.bind_some, Option.bind_none, ↓reduceIte, if_true, if_false]
  rw [if_neg (nI_neg (by omega)), if_neg (nI_ge (by omega) (by omega))]
theorem x_hasPen_n {r : Int32} (X : BX E b R W P T C) (B : okB R W P T C) (hi : ¬ vp_in r P) : fX0_hasPen N E (some b) r = some 0 := by
  have := B.2.2.1
  have e : gI E (some b) 0 5 = some (nI P) := gI_eq X.1 rfl
  simp only [fX0_hasPen, e, Option.bind_some, Option.bind_none, ↓reduceIte, if_true, if_false]
  rcases nvp hi with c | ⟨c, d⟩ | c
  · rw [if_pos c]
  · rw [if_neg c, if_pos d]
  · omega
theorem x_teethOf (X : BX E b R W P T C) (B : okB R W P T C) (hi : i < R) : fX0_teethOf N E (some b) (nI i) = some (nI (T i)) := by
  have := B.1
  obtain ⟨f, hf, hf2⟩ := X.2.1
  have e : gA E (some b) 0 0 = some (some (b + 1)) := gA_eq (v := some (b + 1)) X.1 rfl
  have e1 : rI E (some (b + 1)) 0 (nI i) = some (nI (T i)) := by rw [rI_eq hf (by omega) (by omega), hf2 i hi]
  simp only [fX0_teethOf, bx_O X, x_hasRing_y X B hi, e, e1, Option.bind_some, Option.bind_none, ↓reduceIte, if_true, if_false]
  rw [if_neg (by decide)]
theorem x_cogsOf (X : BX E b R W P T C) (B : okB R W P T C) (hi : i < W) : fX0_cogsOf N E (some b) (nI i) = some (nI (C i)) := by
  have := B.2.1
  obtain ⟨f, hf, hf2⟩ := X.2.2
  have e : gA E (some b) 0 1 = some (some (b + 2)) := gA_eq (v := some (b + 2)) X.1 rfl
  have e1 : rI E (some (b + 2)) 0 (nI i) = some (nI (C i)) := by rw [rI_eq hf (by omega) (by omega), hf2 i hi]
  simp only [fX0_cogsOf, bx_O X, x_hasWheel_y X B hi, e, e1, Option.bind_some, Option.bind_none, ↓reduceIte, if_true, if_false]
  rw [if_neg (by decide)]
theorem x_fits (X : BX E b R W P T C) (B : okB R W P T C) (hi : i < R) (hj : j < W) : fX0_fits N E (some b) (nI i) (nI j) = some (if C j < T i then 1 else 0) := by
  have := B.2.2.2.1 i hi
  have := B.2.2.2.2 j hj
  simp (disch := omega) only [fX0_fits, bx_O X, x_hasRing_y X B hi, x_hasWheel_y X B hj, x_teethOf X B hi, x_cogsOf X B hj, Option.bind_some, Option.bind_none, ↓reduceIte, if_true, if_false, nI_leI]
  rw [if_neg (by decide), if_neg (by decide)]
  by_cases c : C j < T i
  · rw [if_neg (by omega), if_pos c]
  · rw [if_pos (by omega), if_neg c]
theorem x_divisorOf (hN : 2000 ≤ N) (X : BX E b R W P T C) (B : okB R W P T C) (hi : i < R) (hj : j < W) : fX0_divisorOf N E (some b) (nI i) (nI j) = some (nI (Nat.gcd (T i) (C j))) := by
  have := B.2.2.2.1 i hi
  have := B.2.2.2.2 j hj
  simp (disch := omega) only [fX0_divisorOf, bx_O X, x_teethOf X B hi, x_cogsOf X B hj, Option.bind_some, Option.bind_none, ↓reduceIte, if_true, if_false, x_gd]
theorem x_petalsOf (hN : 2000 ≤ N) (X : BX E b R W P T C) (B : okB R W P T C) (hi : i < R) (hj : j < W) : fX0_petalsOf N E (some b) (nI i) (nI j) = some (nI (T i / Nat.gcd (T i) (C j))) := by
  have := B.2.2.2.1 i hi
  have := gcd_in (x := T i) (y := C j) (by omega)
  simp (disch := omega) only [fX0_petalsOf, bx_O X, x_teethOf X B hi, x_divisorOf hN X B hi hj, Option.bind_some, Option.bind_none, ↓reduceIte, if_true, if_false, x_part]
theorem x_roundsOf (hN : 2000 ≤ N) (X : BX E b R W P T C) (B : okB R W P T C) (hi : i < R) (hj : j < W) : fX0_roundsOf N E (some b) (nI i) (nI j) = some (nI (C j / Nat.gcd (T i) (C j))) := by
  have := B.2.2.2.1 i hi
  have := B.2.2.2.2 j hj
  have := gcd_in (x := T i) (y := C j) (by omega)
  simp (disch := omega) only [fX0_roundsOf, bx_O X, x_cogsOf X B hj, x_divisorOf hN X B hi hj, Option.bind_some, Option.bind_none, ↓reduceIte, if_true, if_false, x_part]
theorem x_longOf (hN : 2000 ≤ N) (X : BX E b R W P T C) (B : okB R W P T C) (hi : i < R) (hj : j < W) : fX0_longOf N E (some b) (nI i) (nI j) = some (nI (T i * (C j / Nat.gcd (T i) (C j)))) := by
  simp (disch := omega) only [fX0_longOf, bx_O X, x_teethOf X B hi, x_roundsOf hN X B hi hj, Option.bind_some, Option.bind_none, ↓reduceIte, if_true, if_false, pk_mul]
theorem x_stepOf (X : BX E b R W P T C) (B : okB R W P T C) (hi : i < R) : fX0_stepOf N E (some b) (nI i) = some (nI (360 / T i)) := by
  have := B.2.2.2.1 i hi
  simp (disch := omega) only [fX0_stepOf, bx_O X, x_teethOf X B hi, Option.bind_some, Option.bind_none, ↓reduceIte, if_true, if_false, i_360, x_part]
end XA
