theorem ix_iff {r : Int32} {R : Nat} (hR : R ≤ 100000) : (0 ≤ r ∧ r ≤ nI R - 1) ↔ vp_in r R := by
  rw [vp_in_iff, Int32.le_iff_toInt_le, Int32.le_iff_toInt_le]
  have e : (nI R - 1).toInt = (R : Int) - 1 := pk_sub_toInt (a := R) (b := 1) (by omega) (by omega)
  have e0 : (0 : Int32).toInt = 0 := by decide
  rw [e, e0]
  omega
theorem m_in_y {N : Nat} {h : Hp} {v lo hi : Int32} (h1 : lo ≤ v) (h2 : v ≤ hi) : fX6_in N h v lo hi = some 1 := by
  simp only [fX6_in]
  rw [if_neg (Int32.not_lt.mpr h1), if_neg (Int32.not_lt.mpr h2)]
theorem m_in_n {N : Nat} {h : Hp} {v lo hi : Int32} (h1 : ¬ (lo ≤ v ∧ v ≤ hi)) : fX6_in N h v lo hi = some 0 := by
  simp only [fX6_in]
  by_cases c : v < lo
  · rw [if_pos c]
  · rw [if_neg c]
    by_cases d : hi < v
    · rw [if_pos d]
    · exact absurd ⟨Int32.not_lt.mp c, Int32.not_lt.mp d⟩ h1
section MA
variable {g : Hp} {m : Nat} {s : Nat → Int32} {t : Int64} {a : Nat → Nat → Int32} {N R W P : Nat} {T C : Nat → Nat}
theorem m_isRing_y {j : Nat} (hs : s 0 = nI R) (hR : R ≤ 4) (hj : j < R) : fX6_isRing N (mH g m s t a) (some m) (nI j) = some 1 := by
  have h := (ix_iff (r := nI j) (R := R) (by omega)).mpr (vp_in_nI hj (by omega))
  simp only [fX6_isRing, mh_O, mh_gJ, mh_pJ, mh_gI0, mh_gI1, mh_gI2, mh_gI5, mh_gI6, mh_gI9, mh_gI14, mh_gI15, mh_gI16, mh_gI17, mh_gI18, mh_gI19, mh_gI24, mh_pI0, mh_pI1, mh_pI2, mh_pI5, mh_pI6, mh_pI9, mh_pI14, mh_pI15, mh_pI16, mh_pI17, mh_pI18, mh_pI19, mh_pI24, mh_gA3, mh_gA4, mh_gA7, mh_gA8, mh_gA10, mh_gA11, mh_gA13, mh_gA20, mh_gA21, mh_gA22, mh_gA23, mh_gA25, mh_gA26, mh_gA27, mh_gA28, mh_gA29, Option.bind_some, Option.bind_none, ↓reduceIte, if_true, if_false, hs, m_in_y h.1 h.2, or_true]
theorem m_isRing_n {r : Int32} (hs : s 0 = nI R) (hR : R ≤ 4) (hj : ¬ vp_in r R) : fX6_isRing N (mH g m s t a) (some m) r = some 0 := by
  have h : ¬ (0 ≤ r ∧ r ≤ nI R - 1) := fun z => hj ((ix_iff (by omega)).mp z)
  simp only [fX6_isRing, mh_O, mh_gJ, mh_pJ, mh_gI0, mh_gI1, mh_gI2, mh_gI5, mh_gI6, mh_gI9, mh_gI14, mh_gI15, mh_gI16, mh_gI17, mh_gI18, mh_gI19, mh_gI24, mh_pI0, mh_pI1, mh_pI2, mh_pI5, mh_pI6, mh_pI9, mh_pI14, mh_pI15, mh_pI16, mh_pI17, mh_pI18, mh_pI19, mh_pI24, mh_gA3, mh_gA4, mh_gA7, mh_gA8, mh_gA10, mh_gA11, mh_gA13, mh_gA20, mh_gA21, mh_gA22, mh_gA23, mh_gA25, mh_gA26, mh_gA27, mh_gA28, mh_gA29, Option.bind_some, Option.bind_none, ↓reduceIte, if_true, if_false, hs, m_in_n h, true_or]
theorem m_commonL {h : Hp} {α : Type} {K : Int32 → Option α} : ∀ (n x y : Nat), y < n → x < 2 ^ 31 → y < 2 ^ 31 → fX6_common_L4 N h K n (nI x) (nI y) = K (nI (Nat.gcd x y)) := by
  intro n
  induction n with
  | zero => intro x y h; omega
  | succ n ih =>
    intro x y h hx hy
    rw [fX6_common_L4]
    by_cases c : y = 0
    · subst c
      rw [if_pos nI_0, Nat.gcd_zero_right]
    · have c' : ¬ nI y = 0 := nI_ne0 (by omega) hy
      have hl : x % y < y := Nat.mod_lt _ (by omega)
      rw [if_neg c', if_neg c', jrem_nI hx (by omega) hy, ih y (x % y) (by omega) hy (by omega)]
      rw [Nat.gcd_comm y, ← Nat.gcd_rec, Nat.gcd_comm]
theorem m_common {h : Hp} {x y : Nat} (hx : x ≤ 1000) (hy : y ≤ 1000) (hN : 2000 ≤ N) : fX6_common N h (nI x) (nI y) = some (nI (Nat.gcd x y)) := by
  simp only [fX6_common]
  rw [m_commonL N x y (by omega) (by omega) (by omega)]
theorem m_isWheel_y {j : Nat} (hs : s 1 = nI W) (hR : W ≤ 6) (hj : j < W) : fX6_isWheel N (mH g m s t a) (some m) (nI j) = some 1 := by
  have h := (ix_iff (r := nI j) (R := W) (by omega)).mpr (vp_in_nI hj (by omega))
  simp only [fX6_isWheel, mh_O, mh_gJ, mh_pJ, mh_gI0, mh_gI1, mh_gI2, mh_gI5, mh_gI6, mh_gI9, mh_gI14, mh_gI15, mh_gI16, mh_gI17, mh_gI18, mh_gI19, mh_gI24, mh_pI0, mh_pI1, mh_pI2, mh_pI5, mh_pI6, mh_pI9, mh_pI14, mh_pI15, mh_pI16, mh_pI17, mh_pI18, mh_pI19, mh_pI24, mh_gA3, mh_gA4, mh_gA7, mh_gA8, mh_gA10, mh_gA11, mh_gA13, mh_gA20, mh_gA21, mh_gA22, mh_gA23, mh_gA25, mh_gA26, mh_gA27, mh_gA28, mh_gA29, Option.bind_some, Option.bind_none, ↓reduceIte, if_true, if_false, hs, m_in_y h.1 h.2, or_true]
theorem m_isWheel_n {r : Int32} (hs : s 1 = nI W) (hR : W ≤ 6) (hj : ¬ vp_in r W) : fX6_isWheel N (mH g m s t a) (some m) r = some 0 := by
  have h : ¬ (0 ≤ r ∧ r ≤ nI W - 1) := fun z => hj ((ix_iff (by omega)).mp z)
  simp only [fX6_isWheel, mh_O, mh_gJ, mh_pJ, mh_gI0, mh_gI1, mh_gI2, mh_gI5, mh_gI6, mh_gI9, mh_gI14, mh_gI15, mh_gI16, mh_gI17, mh_gI18, mh_gI19, mh_gI24, mh_pI0, mh_pI1, mh_pI2, mh_pI5, mh_pI6, mh_pI9, mh_pI14, mh_pI15, mh_pI16, mh_pI17, mh_pI18, mh_pI19, mh_pI24, mh_gA3, mh_gA4, mh_gA7, mh_gA8, mh_gA10, mh_gA11, mh_gA13, mh_gA20, mh_gA21, mh_gA22, mh_gA23, mh_gA25, mh_gA26, mh_gA27, mh_gA28, mh_gA29, Option.bind_some, Option.bind_none, ↓reduceIte, if_true, if_false, hs, m_in_n h, true_or]
theorem m_isPen_y {j : Nat} (hs : s 2 = nI P) (hR : P ≤ 4) (hj : j < P) : fX6_isPen N (mH g m s t a) (some m) (nI j) = some 1 := by
  have h := (ix_iff (r := nI j) (R := P) (by omega)).mpr (vp_in_nI hj (by omega))
  simp only [fX6_isPen, mh_O, mh_gJ, mh_pJ, mh_gI0, mh_gI1, mh_gI2, mh_gI5, mh_gI6, mh_gI9, mh_gI14, mh_gI15, mh_gI16, mh_gI17, mh_gI18, mh_gI19, mh_gI24, mh_pI0, mh_pI1, mh_pI2, mh_pI5, mh_pI6, mh_pI9, mh_pI14, mh_pI15, mh_pI16, mh_pI17, mh_pI18, mh_pI19, mh_pI24, mh_gA3, mh_gA4, mh_gA7, mh_gA8, mh_gA10, mh_gA11, mh_gA13, mh_gA20, mh_gA21, mh_gA22, mh_gA23, mh_gA25, mh_gA26, mh_gA27, mh_gA28, mh_gA29, Option.bind_some, Option.bind_none, ↓reduceIte, if_true, if_false, hs, m_in_y h.1 h.2, or_true]
theorem m_isPen_n {r : Int32} (hs : s 2 = nI P) (hR : P ≤ 4) (hj : ¬ vp_in r P) : fX6_isPen N (mH g m s t a) (some m) r = some 0 := by
  have h : ¬ (0 ≤ r ∧ r ≤ nI P - 1) := fun z => hj ((ix_iff (by omega)).mp z)
  simp only [fX6_isPen, mh_O, mh_gJ, mh_pJ, mh_gI0, mh_gI1, mh_gI2, mh_gI5, mh_gI6, mh_gI9, mh_gI14, mh_gI15, mh_gI16, mh_gI17, mh_gI18, mh_gI19, mh_gI24, mh_pI0, mh_pI1, mh_pI2, mh_pI5, mh_pI6, mh_pI9, mh_pI14, mh_pI15, mh_pI16, mh_pI17, mh_pI18, mh_pI19, mh_pI24, mh_gA3, mh_gA4, mh_gA7, mh_gA8, mh_gA10, mh_gA11, mh_gA13, mh_gA20, mh_gA21, mh_gA22, mh_gA23, mh_gA25, mh_gA26, mh_gA27, mh_gA28, mh_gA29, Option.bind_some, Option.bind_none, ↓reduceIte, if_true, if_false, hs, m_in_n h, true_or]
theorem m_isCurve_y {j n : Nat} (hs : s 6 = nI n) (hR : n ≤ 12) (hj : j < n) : fX6_isCurve N (mH g m s t a) (some m) (nI j) = some 1 := by
  have h := (ix_iff (r := nI j) (R := n) (by omega)).mpr (vp_in_nI hj (by omega))
  simp only [fX6_isCurve, mh_O, mh_gJ, mh_pJ, mh_gI0, mh_gI1, mh_gI2, mh_gI5, mh_gI6, mh_gI9, mh_gI14, mh_gI15, mh_gI16, mh_gI17, mh_gI18, mh_gI19, mh_gI24, mh_pI0, mh_pI1, mh_pI2, mh_pI5, mh_pI6, mh_pI9, mh_pI14, mh_pI15, mh_pI16, mh_pI17, mh_pI18, mh_pI19, mh_pI24, mh_gA3, mh_gA4, mh_gA7, mh_gA8, mh_gA10, mh_gA11, mh_gA13, mh_gA20, mh_gA21, mh_gA22, mh_gA23, mh_gA25, mh_gA26, mh_gA27, mh_gA28, mh_gA29, Option.bind_some, Option.bind_none, ↓reduceIte, if_true, if_false, hs, m_in_y h.1 h.2, or_true]
theorem m_isCurve_n {r : Int32} {n : Nat} (hs : s 6 = nI n) (hR : n ≤ 12) (hj : ¬ vp_in r n) : fX6_isCurve N (mH g m s t a) (some m) r = some 0 := by
  have h : ¬ (0 ≤ r ∧ r ≤ nI n - 1) := fun z => hj ((ix_iff (by omega)).mp z)
  simp only [fX6_isCurve, mh_O, mh_gJ, mh_pJ, mh_gI0, mh_gI1, mh_gI2, mh_gI5, mh_gI6, mh_gI9, mh_gI14, mh_gI15, mh_gI16, mh_gI17, mh_gI18, mh_gI19, mh_gI24, mh_pI0, mh_pI1, mh_pI2, mh_pI5, mh_pI6, mh_pI9, mh_pI14, mh_pI15, mh_pI16, mh_pI17, mh_pI18, mh_pI19, mh_pI24, mh_gA3, mh_gA4, mh_gA7, mh_gA8, mh_gA10, mh_gA11, mh_gA13, mh_gA20, mh_gA21, mh_gA22, mh_gA23, mh_gA25, mh_gA26, mh_gA27, mh_gA28, mh_gA29, Option.bind_some, Option.bind_none, ↓reduceIte, if_true, if_false, hs, m_in_n h, true_or]
/-- what a text may tell -/
def okB (R W P : Nat) (T C : Nat → Nat) : Prop := R ≤ 4 ∧ W ≤ 6 ∧ P ≤ 4 ∧ (∀ i, i < R → 12 ≤ T i ∧ T i ≤ 120 ∧ T i ∣ 360) ∧ (∀ i, i < W → 3 ≤ C i ∧ C i ≤ 99)
def mB (s : Nat → Int32) (a : Nat → Nat → Int32) (R W P : Nat) (T C : Nat → Nat) : Prop := s 0 = nI R ∧ s 1 = nI W ∧ s 2 = nI P ∧ (∀ i, i < R → a 1 i = nI (T i)) ∧ (∀ i, i < W → a 2 i = nI (C i))
variable {i j : Nat}
theorem m_fits (B : okB R W P T C) (H : mB s a R W P T C) (hi : i < R) (hj : j < W) : fX6_fits N (mH g m s t a) (some m) (nI i) (nI j) = some (if C j < T i then 1 else 0) := by
  obtain ⟨b1, b2, b3, b4, b5⟩ := B
  obtain ⟨h1, h2, h3, h4, h5⟩ := H
  have := b4 i hi
  have := b5 j hj
  simp (disch := omega) only [fX6_fits, mh_O, mh_gJ, mh_pJ, mh_gI0, mh_gI1, mh_gI2, mh_gI5, mh_gI6, mh_gI9, mh_gI14, mh_gI15, mh_gI16, mh_gI17, mh_gI18, mh_gI19, mh_gI24, mh_pI0, mh_pI1, mh_pI2, mh_pI5, mh_pI6, mh_pI9, mh_pI14, mh_pI15, mh_pI16, mh_pI17, mh_pI18, mh_pI19, mh_pI24, mh_gA3, mh_gA4, mh_gA7, mh_gA8, mh_gA10, mh_gA11, mh_gA13, mh_gA20, mh_gA21, mh_gA22, mh_gA23, mh_gA25, mh_gA26, mh_gA27, mh_gA28, mh_gA29, mh_rd1, mh_rd2, mh_rd3, mh_rd4, mh_rd5, mh_rd6, mh_rd7, mh_rd8, mh_rd9, mh_rd10, mh_rd11, mh_rd12, mh_rd13, mh_rd14, mh_rd15, mh_rd16, mh_wr1, mh_wr2, mh_wr3, mh_wr4, mh_wr5, mh_wr6, mh_wr7, mh_wr8, mh_wr9, mh_wr10, mh_wr11, mh_wr12, mh_wr13, mh_wr14, mh_wr15, mh_wr16, Option.bind_some, Option.bind_none, ↓reduceIte, if_true, if_false, h4 i hi, h5 j hj, nI_leI]
  by_cases c : C j < T i
  · rw [if_neg (by omega), if_pos c]
  · rw [if_pos (by omega), if_neg c]
theorem m_commonOf (hN : 2000 ≤ N) (B : okB R W P T C) (H : mB s a R W P T C) (hi : i < R) (hj : j < W) : fX6_commonOf N (mH g m s t a) (some m) (nI i) (nI j) = some (nI (Nat.gcd (T i) (C j))) := by
  obtain ⟨b1, b2, b3, b4, b5⟩ := B
  obtain ⟨h1, h2, h3, h4, h5⟩ := H
  have := b4 i hi
  have := b5 j hj
  simp (disch := omega) only [fX6_commonOf, mh_O, mh_gJ, mh_pJ, mh_gI0, mh_gI1, mh_gI2, mh_gI5, mh_gI6, mh_gI9, mh_gI14, mh_gI15, mh_gI16, mh_gI17, mh_gI18, mh_gI19, mh_gI24, mh_pI0, mh_pI1, mh_pI2, mh_pI5, mh_pI6, mh_pI9, mh_pI14, mh_pI15, mh_pI16, mh_pI17, mh_pI18, mh_pI19, mh_pI24, mh_gA3, mh_gA4, mh_gA7, mh_gA8, mh_gA10, mh_gA11, mh_gA13, mh_gA20, mh_gA21, mh_gA22, mh_gA23, mh_gA25, mh_gA26, mh_gA27, mh_gA28, mh_gA29, mh_rd1, mh_rd2, mh_rd3, mh_rd4, mh_rd5, mh_rd6, mh_rd7, mh_rd8, mh_rd9, mh_rd10, mh_rd11, mh_rd12, mh_rd13, mh_rd14, mh_rd15, mh_rd16, mh_wr1, mh_wr2, mh_wr3, mh_wr4, mh_wr5, mh_wr6, mh_wr7, mh_wr8, mh_wr9, mh_wr10, mh_wr11, mh_wr12, mh_wr13, mh_wr14, mh_wr15, mh_wr16, Option.bind_some, Option.bind_none, ↓reduceIte, if_true, if_false, h4 i hi, h5 j hj, m_common]
theorem gcd_in {x y : Nat} (hx : 0 < x) : 0 < Nat.gcd x y ∧ Nat.gcd x y ≤ x := ⟨Nat.gcd_pos_of_pos_left _ hx, Nat.le_of_dvd hx (Nat.gcd_dvd_left x y)⟩
theorem m_petalsOf (hN : 2000 ≤ N) (B : okB R W P T C) (H : mB s a R W P T C) (hi : i < R) (hj : j < W) : fX6_petalsOf N (mH g m s t a) (some m) (nI i) (nI j) = some (nI (T i / Nat.gcd (T i) (C j))) := by
  have e := m_commonOf (g := g) (m := m) (t := t) hN B H hi hj
  obtain ⟨b1, b2, b3, b4, b5⟩ := B
  obtain ⟨h1, h2, h3, h4, h5⟩ := H
  have := b4 i hi
  have := b5 j hj
  have := gcd_in (x := T i) (y := C j) (by omega)
  have e0 : ¬ nI (Nat.gcd (T i) (C j)) = 0 := nI_ne0 (by omega) (by omega)
  simp (disch := omega) only [fX6_petalsOf, mh_O, mh_gJ, mh_pJ, mh_gI0, mh_gI1, mh_gI2, mh_gI5, mh_gI6, mh_gI9, mh_gI14, mh_gI15, mh_gI16, mh_gI17, mh_gI18, mh_gI19, mh_gI24, mh_pI0, mh_pI1, mh_pI2, mh_pI5, mh_pI6, mh_pI9, mh_pI14, mh_pI15, mh_pI16, mh_pI17, mh_pI18, mh_pI19, mh_pI24, mh_gA3, mh_gA4, mh_gA7, mh_gA8, mh_gA10, mh_gA11, mh_gA13, mh_gA20, mh_gA21, mh_gA22, mh_gA23, mh_gA25, mh_gA26, mh_gA27, mh_gA28, mh_gA29, mh_rd1, mh_rd2, mh_rd3, mh_rd4, mh_rd5, mh_rd6, mh_rd7, mh_rd8, mh_rd9, mh_rd10, mh_rd11, mh_rd12, mh_rd13, mh_rd14, mh_rd15, mh_rd16, mh_wr1, mh_wr2, mh_wr3, mh_wr4, mh_wr5, mh_wr6, mh_wr7, mh_wr8, mh_wr9, mh_wr10, mh_wr11, mh_wr12, mh_wr13, mh_wr14, mh_wr15, mh_wr16, Option.bind_some, Option.bind_none, ↓reduceIte, if_true, if_false, h4 i hi, e, e0, pk_div]
theorem m_roundsOf (hN : 2000 ≤ N) (B : okB R W P T C) (H : mB s a R W P T C) (hi : i < R) (hj : j < W) : fX6_roundsOf N (mH g m s t a) (some m) (nI i) (nI j) = some (nI (C j / Nat.gcd (T i) (C j))) := by
  have e := m_commonOf (g := g) (m := m) (t := t) hN B H hi hj
  obtain ⟨b1, b2, b3, b4, b5⟩ := B
  obtain ⟨h1, h2, h3, h4, h5⟩ := H
  have := b4 i hi
  have := b5 j hj
  have := gcd_in (x := T i) (y := C j) (by omega)
  have e0 : ¬ nI (Nat.gcd (T i) (C j)) = 0 := nI_ne0 (by omega) (by omega)
  simp (disch := omega) only [fX6_roundsOf, mh_O, mh_gJ, mh_pJ, mh_gI0, mh_gI1, mh_gI2, mh_gI5, mh_gI6, mh_gI9, mh_gI14, mh_gI15, mh_gI16, mh_gI17, mh_gI18, mh_gI19, mh_gI24, mh_pI0, mh_pI1, mh_pI2, mh_pI5, mh_pI6, mh_pI9, mh_pI14, mh_pI15, mh_pI16, mh_pI17, mh_pI18, mh_pI19, mh_pI24, mh_gA3, mh_gA4, mh_gA7, mh_gA8, mh_gA10, mh_gA11, mh_gA13, mh_gA20, mh_gA21, mh_gA22, mh_gA23, mh_gA25, mh_gA26, mh_gA27, mh_gA28, mh_gA29, mh_rd1, mh_rd2, mh_rd3, mh_rd4, mh_rd5, mh_rd6, mh_rd7, mh_rd8, mh_rd9, mh_rd10, mh_rd11, mh_rd12, mh_rd13, mh_rd14, mh_rd15, mh_rd16, mh_wr1, mh_wr2, mh_wr3, mh_wr4, mh_wr5, mh_wr6, mh_wr7, mh_wr8, mh_wr9, mh_wr10, mh_wr11, mh_wr12, mh_wr13, mh_wr14, mh_wr15, mh_wr16, Option.bind_some, Option.bind_none, ↓reduceIte, if_true, if_false, h5 j hj, e, e0, pk_div]
theorem m_longOf (hN : 2000 ≤ N) (B : okB R W P T C) (H : mB s a R W P T C) (hi : i < R) (hj : j < W) : fX6_longOf N (mH g m s t a) (some m) (nI i) (nI j) = some (nI (T i * (C j / Nat.gcd (T i) (C j)))) := by
  have e := m_roundsOf (g := g) (m := m) (t := t) hN B H hi hj
  obtain ⟨b1, b2, b3, b4, b5⟩ := B
  obtain ⟨h1, h2, h3, h4, h5⟩ := H
  simp (disch := omega) only [fX6_longOf, mh_O, mh_gJ, mh_pJ, mh_gI0, mh_gI1, mh_gI2, mh_gI5, mh_gI6, mh_gI9, mh_gI14, mh_gI15, mh_gI16, mh_gI17, mh_gI18, mh_gI19, mh_gI24, mh_pI0, mh_pI1, mh_pI2, mh_pI5, mh_pI6, mh_pI9, mh_pI14, mh_pI15, mh_pI16, mh_pI17, mh_pI18, mh_pI19, mh_pI24, mh_gA3, mh_gA4, mh_gA7, mh_gA8, mh_gA10, mh_gA11, mh_gA13, mh_gA20, mh_gA21, mh_gA22, mh_gA23, mh_gA25, mh_gA26, mh_gA27, mh_gA28, mh_gA29, mh_rd1, mh_rd2, mh_rd3, mh_rd4, mh_rd5, mh_rd6, mh_rd7, mh_rd8, mh_rd9, mh_rd10, mh_rd11, mh_rd12, mh_rd13, mh_rd14, mh_rd15, mh_rd16, mh_wr1, mh_wr2, mh_wr3, mh_wr4, mh_wr5, mh_wr6, mh_wr7, mh_wr8, mh_wr9, mh_wr10, mh_wr11, mh_wr12, mh_wr13, mh_wr14, mh_wr15, mh_wr16, Option.bind_some, Option.bind_none, ↓reduceIte, if_true, if_false, h4 i hi, e, pk_mul]
/-! where a tip is -/
theorem nI_sab {x y z : Nat} (h : y ≤ x + z) : nI x - nI y + nI z = nI (x + z - y) := by
  rw [← pk_sub h, ← nI_add, Int32.sub_eq_add_neg, Int32.sub_eq_add_neg, Int32.add_assoc, Int32.add_comm (-nI y), ← Int32.add_assoc]
def frm (lay pt : Nat) : Nat := (pt + 360 - lay) % 360
theorem dv_360 {x : Nat} (h : x ∣ 360) (h1 : 12 ≤ x) (h2 : x ≤ 120) : 3 ≤ 360 / x ∧ 360 / x ≤ 30 ∧ 360 / x * x = 360 := by
  obtain ⟨k, hk⟩ := h
  have e : 360 / x = k := by rw [hk]; exact Nat.mul_div_cancel_left k (by omega)
  rw [e, Nat.mul_comm]
  refine ⟨?_, ?_, hk.symm⟩
  · apply Nat.le_of_not_lt
    intro z
    have : x * k ≤ 120 * 2 := Nat.mul_le_mul h2 (by omega)
    omega
  · apply Nat.le_of_not_lt
    intro z
    have : 12 * 31 ≤ x * k := Nat.mul_le_mul h1 (by omega)
    omega
theorem m_toothAt (B : okB R W P T C) (H : mB s a R W P T C) {lay pt : Nat} (hi : i < R) (hl : lay < 360) (hp : pt < 360) : fX6_toothAt N (mH g m s t a) (some m) (nI i) (nI lay) (nI pt) = some (if frm lay pt % (360 / T i) = 0 then nI (frm lay pt / (360 / T i)) else -9) := by
  obtain ⟨b1, b2, b3, b4, b5⟩ := B
  obtain ⟨h1, h2, h3, h4, h5⟩ := H
  have ht := b4 i hi
  have hd := dv_360 ht.2.2 ht.1 ht.2.1
  have e0 : ¬ nI (T i) = 0 := nI_ne0 (by omega) (by omega)
  have e1 : ¬ nI (360 / T i) = 0 := nI_ne0 (by omega) (by omega)
  have hf : frm lay pt < 360 := Nat.mod_lt _ (by decide)
  have hm : frm lay pt % (360 / T i) < 360 / T i := Nat.mod_lt _ (by omega)
  have e2 : jrem ((nI pt - nI lay) + nI 360) (nI 360) = nI (frm lay pt) := by
    rw [nI_sab (by omega), jrem_nI (by omega) (by omega) (by omega)]; rfl
  simp (disch := omega) only [fX6_toothAt, mh_O, mh_gJ, mh_pJ, mh_gI0, mh_gI1, mh_gI2, mh_gI5, mh_gI6, mh_gI9, mh_gI14, mh_gI15, mh_gI16, mh_gI17, mh_gI18, mh_gI19, mh_gI24, mh_pI0, mh_pI1, mh_pI2, mh_pI5, mh_pI6, mh_pI9, mh_pI14, mh_pI15, mh_pI16, mh_pI17, mh_pI18, mh_pI19, mh_pI24, mh_gA3, mh_gA4, mh_gA7, mh_gA8, mh_gA10, mh_gA11, mh_gA13, mh_gA20, mh_gA21, mh_gA22, mh_gA23, mh_gA25, mh_gA26, mh_gA27, mh_gA28, mh_gA29, mh_rd1, mh_rd2, mh_rd3, mh_rd4, mh_rd5, mh_rd6, mh_rd7, mh_rd8, mh_rd9, mh_rd10, mh_rd11, mh_rd12, mh_rd13, mh_rd14, mh_rd15, mh_rd16, mh_wr1, mh_wr2, mh_wr3, mh_wr4, mh_wr5, mh_wr6, mh_wr7, mh_wr8, mh_wr9, mh_wr10, mh_wr11, mh_wr12, mh_wr13, mh_wr14, mh_wr15, mh_wr16, Option.bind_some, Option.bind_none, ↓reduceIte, if_true, if_false, h4 i hi, i_360, pk_div, e0, e1, e2, jrem_nI]
  by_cases c : frm lay pt % (360 / T i) = 0
  · rw [if_pos c, if_pos (by rw [c]; exact nI_0)]
  · rw [if_neg c, if_neg (nI_ne0 (by omega) (by omega))]
end MA
