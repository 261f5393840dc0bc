theorem bmod_id {x : Int} (h1 : -2147483648 ≤ x) (h2 : x < 2147483648) : x.bmod (2 ^ 32) = x := Int.bmod_eq_of_le (by simpa using h1) (by simpa using h2)
theorem jrem_toInt {x y : Int32} (hx1 : -1073741824 < x.toInt) (hx2 : x.toInt < 1073741824) (hy1 : 0 < y.toInt) (hy2 : y.toInt < 1073741824) : (jrem x y).toInt = x.toInt.tmod y.toInt := by
  have hne : y ≠ -1 := by
    intro e
    rw [e] at hy1
    exact absurd hy1 (by decide)
  have hb := tmod_bounds (a := x.toInt) hy1
  have he := Int.tmod_add_tdiv_mul x.toInt y.toInt
  unfold jrem
  rw [Int32.toInt_sub, Int32.toInt_mul, Int32.toInt_div_of_ne_right _ _ hne, bmod_id (x := x.toInt.tdiv y.toInt * y.toInt) (by omega) (by omega), bmod_id (by omega) (by omega)]
  omega
theorem jrem_dvd {t st g : Nat} (ht : t < 2 ^ 29) (hs : st < 2 ^ 29) (hg : 0 < g) (hg2 : g < 2 ^ 29) : jrem (nI t - nI st) (nI g) = 0 ↔ (g : Int) ∣ (t : Int) - (st : Int) := by
  have e := pk_sub_toInt (a := t) (b := st) (by omega) (by omega)
  have e2 := nI_toInt (n := g) (by omega)
  rw [← Int32.toInt_inj, jrem_toInt (by rw [e]; omega) (by rw [e]; omega) (by rw [e2]; omega) (by rw [e2]; omega), e, e2, Int.dvd_iff_tmod_eq_zero]
  rfl
theorem m_isTip {N : Nat} {h : Hp} {t st g : Nat} (ht : t < 2 ^ 29) (hs : st < 2 ^ 29) (hg : 0 < g) (hg2 : g < 2 ^ 29) : fX6_isTip N h (nI g) (nI t) (nI st) = some (if (g : Int) ∣ (t : Int) - (st : Int) then 1 else 0) := by
  have e0 : ¬ nI g = 0 := nI_ne0 hg (by omega)
  simp only [fX6_isTip, e0, Option.bind_some, Option.bind_none, ↓reduceIte, if_true, if_false]
  by_cases c : (g : Int) ∣ (t : Int) - (st : Int)
  · rw [if_pos c, if_pos ((jrem_dvd ht hs hg hg2).mpr c)]
  · rw [if_neg c, if_neg (fun z => c ((jrem_dvd ht hs hg hg2).mp z))]
theorem frm_int {lay pt : Nat} (hl : lay < 360) (hp : pt < 360) : ∃ e : Int, (frm lay pt : Int) = (pt : Int) - (lay : Int) + 360 * e := by
  unfold frm
  by_cases c : lay ≤ pt
  · exact ⟨0, by omega⟩
  · exact ⟨1, by omega⟩
theorem tip_iff {s g T lay pt st : Nat} (hs : 0 < s) (h : s * T = 360) (hg : g ∣ T) (hl : lay < 360) (hp : pt < 360) : (frm lay pt % s = 0 ∧ (g : Int) ∣ ((frm lay pt / s : Nat) : Int) - (st : Int)) ↔ ((s * g : Nat) : Int) ∣ (pt : Int) - ((s * st + lay : Nat) : Int) := by
  obtain ⟨e, he⟩ := frm_int hl hp
  obtain ⟨u, hu⟩ := hg
  have h36 : (360 : Int) = (s : Int) * (g : Int) * (u : Int) := by
    have : 360 = s * g * u := by rw [← h, hu, Nat.mul_assoc]
    rw [← Int.natCast_mul, ← Int.natCast_mul, ← this]
    rfl
  constructor
  · rintro ⟨h1, c, hc⟩
    have h2 : frm lay pt = s * (frm lay pt / s) := by
      have := Nat.div_add_mod (frm lay pt) s
      omega
    have h3 : (frm lay pt : Int) = (s : Int) * ((frm lay pt / s : Nat) : Int) := by exact_mod_cast h2
    refine ⟨c - u * e, ?_⟩
    push_cast
    have h4 : ((frm lay pt / s : Nat) : Int) = st + g * c := by omega
    rw [h4] at h3
    rw [h36] at he
    grind
  · rintro ⟨c, hc⟩
    push_cast at hc
    have h5 : (frm lay pt : Int) = (s : Int) * ((st : Int) + g * (c + u * e)) := by
      rw [he, h36]
      grind
    have h6 : s ∣ frm lay pt := by
      have : (s : Int) ∣ (frm lay pt : Int) := ⟨_, h5⟩
      exact_mod_cast this
    refine ⟨Nat.mod_eq_zero_of_dvd h6, c + u * e, ?_⟩
    have h2 : frm lay pt = s * (frm lay pt / s) := (Nat.mul_div_cancel' h6).symm
    have h3 : (frm lay pt : Int) = (s : Int) * ((frm lay pt / s : Nat) : Int) := by exact_mod_cast h2
    have h7 : ((frm lay pt / s : Nat) : Int) = (st : Int) + g * (c + u * e) := by
      have : (s : Int) * ((frm lay pt / s : Nat) : Int) = (s : Int) * ((st : Int) + g * (c + u * e)) := by rw [← h3, h5]
      exact Int.eq_of_mul_eq_mul_left (by omega) this
    omega

/-! a note: how the paper lies, curves, inks (from 2 on), six numbers a curve (from 6 on) -/
abbrev cF (φ : Nat → Nat) (k f : Nat) : Nat := φ (6 + (6 * k + f))
def okC (R W P : Nat) (T C φ : Nat → Nat) (k : Nat) : Prop := cF φ k 0 < R ∧ cF φ k 1 < W ∧ C (cF φ k 1) < T (cF φ k 0) ∧ 1 ≤ cF φ k 2 ∧ cF φ k 2 ≤ 9 ∧ cF φ k 3 < T (cF φ k 0) ∧ cF φ k 4 < P ∧ cF φ k 5 < 360
def okN (R W P : Nat) (T C φ : Nat → Nat) : Prop := φ 0 < 360 ∧ φ 1 ≤ 12 ∧ (∀ p, p < P → φ (2 + p) ≤ 999) ∧ ∀ k, k < φ 1 → okC R W P T C φ k
def mN (s : Nat → Int32) (a : Nat → Nat → Int32) (P : Nat) (φ : Nat → Nat) : Prop := s 5 = nI (φ 0) ∧ s 6 = nI (φ 1) ∧ (∀ p, p < P → a 3 p = nI (φ (2 + p))) ∧ ∀ q, q < 6 * φ 1 → a 4 q = nI (φ (6 + q))
/-- a curve has a tip at a point (its line aside) -/
def tipB (T C φ : Nat → Nat) (k pt : Nat) : Bool := decide (((360 / T (cF φ k 0) * Nat.gcd (T (cF φ k 0)) (C (cF φ k 1)) : Nat) : Int) ∣ (pt : Int) - ((360 / T (cF φ k 0) * cF φ k 3 + cF φ k 5 : Nat) : Int))
/-- a curve has a tip there, in that line -/
def tipL (T C φ : Nat → Nat) (line pt k : Nat) : Bool := (cF φ k 2 == line) && tipB T C φ k pt
/-- the latest below n, or none -/
def lastK (p : Nat → Bool) : Nat → Int32
  | 0 => -9
  | n + 1 => if p n = true then nI n else lastK p n
section MB
variable {g : Hp} {m : Nat} {s : Nat → Int32} {t : Int64} {a : Nat → Nat → Int32} {N R W P : Nat} {T C φ : Nat → Nat}
theorem m_hasTip (hN : 2000 ≤ N) (B : okB R W P T C) (H : mB s a R W P T C) (O : okN R W P T C φ) (J : mN s a P φ) {k pt line : Nat} (hk : k < φ 1) (hp : pt < 360) (hl : line < 10) : fX6_hasTip N (mH g m s t a) (some m) (nI k) (nI pt) (nI line) = some (if tipL T C φ line pt k = true then 1 else 0) := by
  obtain ⟨o1, o2, o3, o4⟩ := O
  obtain ⟨j1, j2, j3, j4⟩ := J
  obtain ⟨c0, c1, c2, c3, c4, c5, c6, c7⟩ := o4 k hk
  have e0 : a 4 (6 * k) = nI (cF φ k 0) := j4 (6 * k) (by omega)
  have e1 : a 4 (6 * k + 1) = nI (cF φ k 1) := j4 (6 * k + 1) (by omega)
  have e2 : a 4 (6 * k + 2) = nI (cF φ k 2) := j4 (6 * k + 2) (by omega)
  have e3 : a 4 (6 * k + 3) = nI (cF φ k 3) := j4 (6 * k + 3) (by omega)
  have e5 : a 4 (6 * k + 5) = nI (cF φ k 5) := j4 (6 * k + 5) (by omega)
  have ht := B.2.2.2.1 _ c0
  have hd := dv_360 ht.2.2 ht.1 ht.2.1
  have hg := gcd_in (x := T (cF φ k 0)) (y := C (cF φ k 1)) (by omega)
  have tA := m_toothAt (N := N) (g := g) (m := m) (t := t) B H c0 c7 hp
  have cO := m_commonOf (g := g) (m := m) (t := t) hN B H c0 c1
  have iff_ := tip_iff (s := 360 / T (cF φ k 0)) (g := Nat.gcd (T (cF φ k 0)) (C (cF φ k 1))) (T := T (cF φ k 0)) (lay := cF φ k 5) (pt := pt) (st := cF φ k 3) (by omega) hd.2.2 (Nat.gcd_dvd_left _ _) c7 hp
  have hfr : frm (cF φ k 5) pt < 360 := Nat.mod_lt _ (by decide)
  have hfd : frm (cF φ k 5) pt / (360 / T (cF φ k 0)) < 360 := Nat.lt_of_le_of_lt (Nat.div_le_self _ _) hfr
  simp (disch := omega) only [fX6_hasTip, mh_O, mh_gJ, mh_pJ, mh_gI0, mh_gI1, mh_gI2, mh_gI5, mh_gI6, mh_gI9, mh_gI14, mh_gI15, mh_gI16, mh_gI17, mh_gI18, mh_gI19, mh_gI24, mh_pI0, mh_pI1, mh_pI2, mh_pI5, mh_pI6, mh_pI9, mh_pI14, mh_pI15, mh_pI16, mh_pI17, mh_pI18, mh_pI19, mh_pI24, mh_gA3, mh_gA4, mh_gA7, mh_gA8, mh_gA10, mh_gA11, mh_gA13, mh_gA20, mh_gA21, mh_gA22, mh_gA23, mh_gA25, mh_gA26, mh_gA27, mh_gA28, mh_gA29, mh_rd1, mh_rd2, mh_rd3, mh_rd4, mh_rd5, mh_rd6, mh_rd7, mh_rd8, mh_rd9, mh_rd10, mh_rd11, mh_rd12, mh_rd13, mh_rd14, mh_rd15, mh_rd16, mh_wr1, mh_wr2, mh_wr3, mh_wr4, mh_wr5, mh_wr6, mh_wr7, mh_wr8, mh_wr9, mh_wr10, mh_wr11, mh_wr12, mh_wr13, mh_wr14, mh_wr15, mh_wr16, Option.bind_some, Option.bind_none, ↓reduceIte, if_true, if_false, i_6, i_2, i_5, i_1, i_3, pk_mul, nI_add, e0, e1, e2, e3, e5, nI_eq]
  by_cases hh : cF φ k 2 = line
  · rw [if_pos hh]
    simp only [tA, Option.bind_some, Option.bind_none, ↓reduceIte, if_true, if_false]
    by_cases hm : frm (cF φ k 5) pt % (360 / T (cF φ k 0)) = 0
    · rw [if_pos hm, if_neg (nI_neg9 (by omega))]
      simp (disch := omega) only [cO, m_isTip, Option.bind_some, Option.bind_none, ↓reduceIte, if_true, if_false]
      by_cases hdv : ((Nat.gcd (T (cF φ k 0)) (C (cF φ k 1)) : Nat) : Int) ∣ ((frm (cF φ k 5) pt / (360 / T (cF φ k 0)) : Nat) : Int) - ((cF φ k 3 : Nat) : Int)
      · have ht : tipL T C φ line pt k = true := by
          simp only [tipL, tipB, Bool.and_eq_true, beq_iff_eq, decide_eq_true_eq]
          exact ⟨hh, iff_.mp ⟨hm, hdv⟩⟩
        rw [if_pos hdv, if_neg (by decide), if_pos ht]
      · have ht : ¬ tipL T C φ line pt k = true := by
          simp only [tipL, tipB, Bool.and_eq_true, beq_iff_eq, decide_eq_true_eq]
          exact fun z => hdv (iff_.mpr z.2).2
        rw [if_neg hdv, if_pos rfl, if_neg ht]
    · have ht : ¬ tipL T C φ line pt k = true := by
        simp only [tipL, tipB, Bool.and_eq_true, beq_iff_eq, decide_eq_true_eq]
        exact fun z => hm (iff_.mpr z.2).1
      rw [if_neg hm, if_pos rfl, if_neg ht]
  · have ht : ¬ tipL T C φ line pt k = true := by
      simp only [tipL, Bool.and_eq_true, beq_iff_eq]
      exact fun z => hh z.1
    rw [if_neg hh, if_neg ht]
theorem m_shownL (hN : 2000 ≤ N) (B : okB R W P T C) (H : mB s a R W P T C) (O : okN R W P T C φ) (J : mN s a P φ) {pt line : Nat} (hp : pt < 360) (hl : line < 10) {α : Type} {K : Int32 → Option α} : ∀ (n k : Nat), k ≤ φ 1 → k < n → ∃ v : Int32, fX6_shownAt_L7 N (mH g m s t a) K n (some m) (nI pt) (nI line) (nI k - 1) = K v ∧ ((lastK (tipL T C φ line pt) k = -9 ∧ v < 0) ∨ ∃ j, j < k ∧ v = nI j ∧ lastK (tipL T C φ line pt) k = nI j) := by
  intro n
  induction n with
  | zero => intro k _ h; omega
  | succ n ih =>
    intro k hk hn
    rw [fX6_shownAt_L7]
    cases k with
    | zero => exact ⟨_, if_pos (by decide), Or.inl ⟨rfl, by decide⟩⟩
    | succ k =>
      have ht := m_hasTip (g := g) (m := m) (t := t) hN B H O J (k := k) (pt := pt) (line := line) (by omega) hp hl
      have hφ := O.2.1
      rw [nI_pred, if_neg (nI_neg (by omega))]
      simp only [mh_O, mh_gJ, mh_pJ, mh_gI0, mh_gI1, mh_gI2, mh_gI5, mh_gI6, mh_gI9, mh_gI14, mh_gI15, mh_gI16, mh_gI17, mh_gI18, mh_gI19, mh_gI24, mh_pI0, mh_pI1, mh_pI2, mh_pI5, mh_pI6, mh_pI9, mh_pI14, mh_pI15, mh_pI16, mh_pI17, mh_pI18, mh_pI19, mh_pI24, mh_gA3, mh_gA4, mh_gA7, mh_gA8, mh_gA10, mh_gA11, mh_gA13, mh_gA20, mh_gA21, mh_gA22, mh_gA23, mh_gA25, mh_gA26, mh_gA27, mh_gA28, mh_gA29, Option.bind_some, Option.bind_none, ↓reduceIte, if_true, if_false, ht]
      unfold lastK
      by_cases c : tipL T C φ line pt k = true
      · simp only [c, Option.bind_some, Option.bind_none, ↓reduceIte, if_true, if_false]
        exact ⟨nI k, if_neg (by decide), Or.inr ⟨k, by omega, rfl, rfl⟩⟩
      · simp only [c, Option.bind_some, Option.bind_none, ↓reduceIte, if_true, if_false]
        obtain ⟨v, h1, h2⟩ := ih k (by omega) (by omega)
        refine ⟨v, ?_, ?_⟩
        · rw [← h1, Int32.sub_eq_add_neg]; rfl
        · rcases h2 with h2 | ⟨j, h3, h4⟩
          · exact Or.inl h2
          · exact Or.inr ⟨j, by omega, h4⟩
theorem m_shownAt (hN : 2000 ≤ N) (B : okB R W P T C) (H : mB s a R W P T C) (O : okN R W P T C φ) (J : mN s a P φ) {pt line : Nat} (hp : pt < 360) (hl : line < 10) : fX6_shownAt N (mH g m s t a) (some m) (nI pt) (nI line) = some (lastK (tipL T C φ line pt) (φ 1)) := by
  have hφ := O.2.1
  obtain ⟨v, h1, h2⟩ := m_shownL (g := g) (m := m) (t := t) hN B H O J hp hl (K := fun l3 => fX6_shownAt_j27 N (mH g m s t a) l3) N (φ 1) (Nat.le_refl _) (by omega)
  simp only [fX6_shownAt, mh_O, mh_gJ, mh_pJ, mh_gI0, mh_gI1, mh_gI2, mh_gI5, mh_gI6, mh_gI9, mh_gI14, mh_gI15, mh_gI16, mh_gI17, mh_gI18, mh_gI19, mh_gI24, mh_pI0, mh_pI1, mh_pI2, mh_pI5, mh_pI6, mh_pI9, mh_pI14, mh_pI15, mh_pI16, mh_pI17, mh_pI18, mh_pI19, mh_pI24, mh_gA3, mh_gA4, mh_gA7, mh_gA8, mh_gA10, mh_gA11, mh_gA13, mh_gA20, mh_gA21, mh_gA22, mh_gA23, mh_gA25, mh_gA26, mh_gA27, mh_gA28, mh_gA29, Option.bind_some, Option.bind_none, ↓reduceIte, if_true, if_false, J.2.1]
  refine h1.trans ?_
  simp only [fX6_shownAt_j27]
  rcases h2 with ⟨h3, h4⟩ | ⟨j, h5, h3, h4⟩
  · rw [if_neg (Int32.not_le.mpr h4), h3]
  · rw [h3, h4, if_pos (nI_pos' (by omega))]
end MB
